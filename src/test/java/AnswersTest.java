/** Promises 15 to 25: what is told. */
public final class AnswersTest {
    private static final Due due = new Due();

    public static void main(String[] args) {
        taxi();
        lists();
        rides();
        ifCalled();
        reason();
        reasonByTheWay();
        ridesIn();
        ridesInOfFifteen();
        ridesInWithoutTaxis();
        ridesInBehindARest();
        ridesInOnADayAtHome();
        inLineIn();
        inLineInAsOthersRide();
        inLineInLong();
        inLineInAtMost();
        shares();
        count();
        due.end();
    }

    private static void taxi() {
        TaxiRank rank = Due.withTaxis(10, 21);
        due.is("taxi(5, 0)", TaxiRank.UNKNOWN, rank.taxi(5, 0));
        due.is("taxi(5, 10)", TaxiRank.UNKNOWN, rank.taxi(5, 10));
        due.is("taxi(-1, 0)", TaxiRank.UNKNOWN, rank.taxi(-1, 0));
        due.is("taxi(0, 0)", TaxiRank.UNKNOWN, rank.taxi(0, 0));
        due.is("taxi(10, -1)", TaxiRank.BAD_VALUE, rank.taxi(10, -1));
        due.is("taxi(10, 10)", TaxiRank.BAD_VALUE, rank.taxi(10, 10));
        due.taxi(rank, 10, 0, 0, 0, 0, 0, 0, 0, 0, 0, 0);
        due.taxi(rank, 21, 0, 1, 0, 0, 0, 0, 0, 0, 0, 1);
        rank.call(7, 17);
        due.taxi(rank, 21, 1, TaxiRank.NONE, 6, 0, 1, 1, 0, 0, 0, 1);
        rank.pass(6);
        due.taxi(rank, 21, 2, TaxiRank.NONE, 20, 6, 1, 1, 0, 0, 0, 1);
        rank.pass(20);
        due.taxi(rank, 21, 3, TaxiRank.NONE, 14, 26, 1, 1, 150, 0, 0, 1);
        rank.pass(14);
        due.taxi(rank, 21, 0, 1, 0, 40, 1, 1, 150, 0, 0, 1);
        due.taxi(rank, 10, 0, 0, 0, 0, 0, 0, 0, 0, 0, 0);
    }

    private static void lists() {
        TaxiRank rank = Due.withTaxis(30, 10, 20);
        due.is("line(-1)", TaxiRank.BAD_VALUE, rank.line(-1));
        due.is("line(MIN)", TaxiRank.BAD_VALUE, rank.line(Integer.MIN_VALUE));
        due.is("line(MAX)", TaxiRank.NONE, rank.line(Integer.MAX_VALUE));
        due.is("plate(-1)", TaxiRank.BAD_VALUE, rank.plate(-1));
        due.is("plate(3)", TaxiRank.NONE, rank.plate(3));
        due.is("plate(MAX)", TaxiRank.NONE, rank.plate(Integer.MAX_VALUE));
        rank.goHome(10);
        due.line(rank, 30, 20);
        due.is("plate(0)", 10, rank.plate(0));
        due.is("plate(1)", 20, rank.plate(1));
        due.is("plate(2)", 30, rank.plate(2));
        rank.arrive(4);
        rank.pass(3);
        rank.arrive(20);
        due.is("waiting(-1, 0)", TaxiRank.BAD_VALUE, rank.waiting(-1, 0));
        due.is("waiting(0, -1)", TaxiRank.BAD_VALUE, rank.waiting(0, -1));
        due.is("waiting(0, 2)", TaxiRank.BAD_VALUE, rank.waiting(0, 2));
        due.is("waiting(9, 2)", TaxiRank.BAD_VALUE, rank.waiting(9, 2));
        due.is("waiting(2, 0)", TaxiRank.NONE, rank.waiting(2, 0));
        due.is("waiting(MAX, 0)", TaxiRank.NONE, rank.waiting(Integer.MAX_VALUE, 0));
        due.is("waiting(0, 0)", 4, rank.waiting(0, 0));
        due.is("waiting(0, 1)", 3, rank.waiting(0, 1));
        due.is("waiting(1, 0)", 20, rank.waiting(1, 0));
        due.is("waiting(1, 1)", 0, rank.waiting(1, 1));
    }

    private static void rides() {
        TaxiRank rank = Due.withTaxis(10, 33, 22);
        due.is("rides(-1)", TaxiRank.UNKNOWN, rank.rides(-1));
        due.is("rides(21)", TaxiRank.UNKNOWN, rank.rides(21));
        due.is("rides(10)", TaxiRank.BAD_VALUE, rank.rides(10));
        due.is("rides(0)", 33, rank.rides(0));
        due.is("rides(20)", 33, rank.rides(20));
        rank.goHome(33);
        due.is("rides(11)", 22, rank.rides(11));
        rank.goHome(22);
        due.is("none that may", TaxiRank.NONE, rank.rides(11));
        due.is("rides(10)", TaxiRank.BAD_VALUE, rank.rides(10));
    }

    private static void ifCalled() {
        TaxiRank rank = Due.withTaxis(10);
        due.is("no taxi", TaxiRank.NOT_POSSIBLE, rank.ifCalled(3, 4, 2));
        rank.come(33);
        due.is("from", TaxiRank.UNKNOWN, rank.ifCalled(-1, 4, 0));
        due.is("to", TaxiRank.UNKNOWN, rank.ifCalled(4, 21, 0));
        due.is("both", TaxiRank.UNKNOWN, rank.ifCalled(21, 21, 9));
        due.is("same", TaxiRank.BAD_VALUE, rank.ifCalled(10, 10, 0));
        due.is("what", TaxiRank.BAD_VALUE, rank.ifCalled(3, 4, 3));
        due.is("what", TaxiRank.BAD_VALUE, rank.ifCalled(3, 4, -1));
        due.is("plate", 33, rank.ifCalled(20, 0, 0));
        due.is("minutes", 20, rank.ifCalled(20, 0, 1));
        due.is("fare", 270, rank.ifCalled(20, 0, 2));
        due.is("minutes", 0, rank.ifCalled(10, 11, 1));
        due.is("fare", 42, rank.ifCalled(10, 11, 2));
        rank.set(0, 9);
        due.is("minutes", 90, rank.ifCalled(20, 0, 1));
        due.is("nothing was called", 0, rank.count(7));
        rank.goHome(33);
        due.is("BAD_VALUE comes first", TaxiRank.BAD_VALUE, rank.ifCalled(3, 4, 3));
        due.is("no taxi", TaxiRank.NOT_POSSIBLE, rank.ifCalled(3, 4, 0));
    }

    private static void reason() {
        TaxiRank rank = Due.withTaxis(10, 31, 22);
        due.is("reason(5, 3)", TaxiRank.UNKNOWN, rank.reason(5, 3));
        due.is("reason(5, 10)", TaxiRank.UNKNOWN, rank.reason(5, 10));
        due.is("reason(31, 21)", TaxiRank.UNKNOWN, rank.reason(31, 21));
        due.is("reason(31, -1)", TaxiRank.UNKNOWN, rank.reason(31, -1));
        due.is("reason(31, 10)", TaxiRank.BAD_VALUE, rank.reason(31, 10));
        due.is("would", 0, rank.reason(31, 3));
        due.is("stays at home", 2, rank.reason(10, 3));
        due.is("another one would", 4, rank.reason(22, 3));
        rank.goHome(10);
        due.is("not in the line, ahead of its plate", 1, rank.reason(10, 3));
        rank.come(10);
        rank.arrive(0);
        rank.pass(1);
        due.is("not in the line", 1, rank.reason(31, 3));
        rank.set(3, 40);
        rank.pass(40);
        due.line(rank, 22, 10);
        due.is("at rest", 1, rank.reason(31, 3));
        rank.undo();
        rank.undo();
        rank.pass(40);
        due.line(rank, 22, 10, 31);
        due.is("a short one goes to the first", 4, rank.reason(31, 6));
        rank.set(3, 41);
        due.is("may", 4, rank.reason(31, 6));
        rank.set(3, 40);
        due.is("too long at the wheel", 3, rank.reason(31, 6));
        Due.passTo(rank, 1440);
        due.is("stays at home, ahead of that", 2, rank.reason(31, 6));
        due.is("10 may on this day, behind 22", 4, rank.reason(10, 6));
        due.is("22 would", 0, rank.reason(22, 6));
    }

    private static void reasonByTheWay() {
        TaxiRank rank = Due.withTaxis(1, 2);
        rank.call(10, 0);
        rank.pass(40);
        rank.goHome(2);
        rank.come(2);
        due.line(rank, 1, 2);
        // somebody who waits rides in a minute only, and changes nothing of what would be now
        for (int round = 0; round < 2; round++) {
            due.is("short, and the first", 0, rank.reason(1, 16));
            due.is("short, and not the first", 4, rank.reason(2, 16));
            due.is("long, with a long fare more", 4, rank.reason(1, 17));
            due.is("long, with the fewest", 0, rank.reason(2, 17));
            due.is("rides(16)", 1, rank.rides(16));
            due.is("rides(17)", 2, rank.rides(17));
            rank.arrive(16);
            rank.arrive(17);
        }
        rank.set(2, 8);
        due.is("short now, and the first", 0, rank.reason(1, 17));
        due.is("short now, and not the first", 4, rank.reason(2, 17));
    }

    private static void ridesIn() {
        TaxiRank rank = Due.withTaxis(1);
        due.is("ridesIn(0)", TaxiRank.UNKNOWN, rank.ridesIn(0));
        due.is("ridesIn(-1)", TaxiRank.UNKNOWN, rank.ridesIn(-1));
        due.is("ridesIn(MAX)", TaxiRank.UNKNOWN, rank.ridesIn(Integer.MAX_VALUE));
        rank.arrive(12);
        rank.arrive(13);
        rank.arrive(14);
        rank.arrive(15);
        due.is("first", 1, rank.ridesIn(0));
        due.is("second", 9, rank.ridesIn(1));
        due.is("third", 21, rank.ridesIn(2));
        due.is("fourth leaves", TaxiRank.NONE, rank.ridesIn(3));
        due.is("ridesIn(4)", TaxiRank.UNKNOWN, rank.ridesIn(4));
        due.is("nothing is done", 0, rank.count(0));
        rank.set(1, 38);
        due.is("at 37 they ride still", 37, rank.ridesIn(3));
        rank.set(1, 37);
        due.is("at 37 they have left", TaxiRank.NONE, rank.ridesIn(3));
        rank.pass(9);
        due.is("the third is the first now", 12, rank.ridesIn(0));
        due.is("the fourth is the second", TaxiRank.NONE, rank.ridesIn(1));
        // alike, but not the same one
        rank = Due.withTaxis(1);
        rank.arrive(12);
        rank.arrive(12);
        rank.arrive(12);
        due.is("first", 1, rank.ridesIn(0));
        due.is("second", 9, rank.ridesIn(1));
        due.is("third", 17, rank.ridesIn(2));
    }

    private static void ridesInOfFifteen() {
        // two taxis, which are back 4 minutes behind each ride
        TaxiRank rank = Due.withTaxis(1, 2);
        rank.set(1, 27);
        rank.call(10, 11);
        for (int i = 0; i < 15; i++) {
            rank.arrive(i % 2 == 0 ? 9 : 11);
        }
        int[] minutes = {1, 4, 5, 8, 9, 12, 13, 16, 17, 20, 21, 24, 25, TaxiRank.NONE, TaxiRank.NONE};
        for (int i = 0; i < minutes.length; i++) {
            due.is("ridesIn(" + i + ")", minutes[i], rank.ridesIn(i));
        }
        due.is("ridesIn(15)", TaxiRank.UNKNOWN, rank.ridesIn(15));
        rank.goHome(2);
        due.is("in the line in", TaxiRank.NONE, rank.inLineIn(2));
        for (int i = 0; i < minutes.length; i++) {
            due.is("ridesIn(" + i + ") with one taxi", i < 6 ? 4 + 4 * i : TaxiRank.NONE, rank.ridesIn(i));
        }
    }

    private static void ridesInWithoutTaxis() {
        TaxiRank rank = new TaxiRank();
        rank.set(1, 240);
        rank.arrive(3);
        due.is("leaves", TaxiRank.NONE, rank.ridesIn(0));
        rank.come(10);
        Due.passTo(rank, 1201);
        rank.arrive(3);
        due.is("leaves", 1, rank.count(6));
        due.is("on the next day", 239, rank.ridesIn(0));
        rank.set(1, 239);
        due.is("not so long", TaxiRank.NONE, rank.ridesIn(0));
        // it asks for the settings as they are
        rank.set(1, 240);
        rank.pass(100);
        due.is("on the next day", 139, rank.ridesIn(0));
        rank.set(1, 50);
        due.is("leaves in the next minute", TaxiRank.NONE, rank.ridesIn(0));
    }

    private static void ridesInBehindARest() {
        TaxiRank rank = Due.withTaxis(1);
        rank.set(3, 30);
        rank.set(4, 20);
        rank.call(10, 20);
        rank.pass(39);
        rank.arrive(11);
        due.is("a way back of 1 and a rest of 20", 21, rank.ridesIn(0));
        rank.pass(1);
        due.is("a rest of 20", 20, rank.ridesIn(0));
        rank.set(4, 200);
        due.is("the rest is as it began", 20, rank.ridesIn(0));
        rank.set(1, 21);
        due.is("would leave in the minute in which the rest ends", TaxiRank.NONE, rank.ridesIn(0));
        rank.set(1, 22);
        rank.pass(20);
        due.is("off", 2, rank.taxi(1, 0));
        due.is("nobody waits", TaxiRank.UNKNOWN, rank.ridesIn(0));
    }

    private static void ridesInOnADayAtHome() {
        TaxiRank rank = Due.withTaxis(21);
        Due.passTo(rank, 1440);
        rank.arrive(5);
        due.is("leaves, for 21 takes nobody on day 1", TaxiRank.NONE, rank.ridesIn(0));
        rank.come(32);
        due.is("rides with another one", 1, rank.ridesIn(0));
        rank.goHome(32);
        Due.passTo(rank, 2880 - 20);
        rank.arrive(5);
        due.is("rides as day 2 begins", 20, rank.ridesIn(0));
    }

    private static void inLineIn() {
        TaxiRank rank = Due.withTaxis(1, 2);
        due.is("inLineIn(3)", TaxiRank.UNKNOWN, rank.inLineIn(3));
        due.is("inLineIn(-1)", TaxiRank.UNKNOWN, rank.inLineIn(-1));
        due.is("in it", 0, rank.inLineIn(1));
        rank.goHome(2);
        due.is("at home", TaxiRank.NONE, rank.inLineIn(2));
        rank.call(7, 16);
        due.is("there, on, back", 6 + 18 + 12, rank.inLineIn(1));
        rank.pass(10);
        due.is("inLineIn(1)", 26, rank.inLineIn(1));
        rank.set(0, 9);
        due.is("its way back only will take longer", 14 + 54, rank.inLineIn(1));
        rank.set(3, 30);
        due.is("and it will rest", 14 + 54 + 45, rank.inLineIn(1));
        rank.pass(14 + 54);
        due.is("it rests", 45, rank.inLineIn(1));
        rank.arrive(1);
        due.is("nobody waits for so long", 45, rank.inLineIn(1));
        rank.set(1, 240);
        due.is("it rides off as it comes, for 9 places and 9", 45 + 81 + 81 + 45, rank.inLineIn(1));
        due.is("nothing is done", 78, rank.count(0));
        due.is("nothing is done", 4, rank.taxi(1, 0));
    }

    private static void inLineInAsOthersRide() {
        TaxiRank rank = Due.withTaxis(1, 2);
        rank.call(10, 11);
        rank.arrive(0);
        due.is("2 takes the passenger, so 1 is in the line", 4, rank.inLineIn(1));
        due.is("2 is in it still", 0, rank.inLineIn(2));
        rank.arrive(20);
        due.is("1 takes the other one as it comes", 4 + 40, rank.inLineIn(1));
        rank.set(1, 4);
        due.is("who has left by then", 4, rank.inLineIn(1));
        rank.set(1, 30);
        rank.pass(1);
        due.is("2 is off", 40, rank.inLineIn(2));
        due.is("1 has a minute less", 3 + 40, rank.inLineIn(1));
        rank.come(13);
        due.is("13 takes the other one now", 3, rank.inLineIn(1));
    }

    private static void inLineInLong() {
        // one taxi, passengers who wait for long, and all the slowest ways
        TaxiRank rank = Due.withTaxis(11);
        rank.set(0, 9);
        rank.set(1, 240);
        rank.set(3, 999);
        rank.set(4, 240);
        for (int i = 0; i < 15; i++) {
            rank.arrive(9);
        }
        due.is("at the end of the line still", 0, rank.inLineIn(11));
        rank.pass(1);
        due.is("18 minutes each, and 14 of them in 240 minutes", 18 * 14, rank.inLineIn(11));
        rank.set(0, 1);
        due.is("the first way as it began, then 2 minutes each", 9 + 1 + 28, rank.inLineIn(11));
    }

    private static void inLineInAtMost() {
        // from one end to the other by the slowest ways, then a passenger there and the longest rest
        TaxiRank rank = Due.withTaxis(11);
        rank.set(0, 9);
        rank.set(4, 240);
        rank.call(10, 20);
        rank.pass(90);
        due.is("on its way back", 90, rank.inLineIn(11));
        rank.pass(89);
        due.is("a minute before", 1, rank.inLineIn(11));
        rank.undo();
        rank.call(0, 20);
        due.is("there, on, back, and a rest", 180 + 180 + 90 + 240, rank.inLineIn(11));
        rank.pass(690);
        due.line(rank, 11);
        due.is("in it", 0, rank.inLineIn(11));
    }

    private static void shares() {
        TaxiRank rank = new TaxiRank();
        due.is("shares(-1)", TaxiRank.BAD_VALUE, rank.shares(-1));
        due.is("shares(3)", TaxiRank.BAD_VALUE, rank.shares(3));
        for (int what = 0; what < 3; what++) {
            due.is("without taxis", TaxiRank.NONE, rank.shares(what));
        }
        rank.come(5);
        rank.call(10, 11);
        rank.pass(4);
        due.is("one taxi, less itself", 0, rank.shares(0));
        due.is("the most", 5, rank.shares(1));
        due.is("the fewest", 5, rank.shares(2));
        rank.undo();
        rank.undo();
        rank.come(3);
        rank.come(4);
        due.is("alike", 0, rank.shares(0));
        due.is("the lowest", 3, rank.shares(1));
        due.is("the lowest", 3, rank.shares(2));
        rank.call(10, 11);
        rank.pass(4);
        due.is("shares(0)", 42, rank.shares(0));
        due.is("shares(1)", 5, rank.shares(1));
        due.is("shares(2)", 3, rank.shares(2));
        rank.call(10, 12);
        rank.pass(8);
        due.is("shares(0)", 54, rank.shares(0));
        due.is("shares(1)", 3, rank.shares(1));
        due.is("shares(2)", 4, rank.shares(2));
        rank.call(10, 12);
        rank.pass(8);
        due.is("shares(0)", 12, rank.shares(0));
        due.is("shares(1)", 3, rank.shares(1));
        due.is("shares(2)", 5, rank.shares(2));
        rank.goHome(5);
        due.is("at home, too", 5, rank.shares(2));
    }

    private static void count() {
        TaxiRank rank = Due.withTaxis(5, 3);
        due.is("count(-1)", TaxiRank.BAD_VALUE, rank.count(-1));
        due.is("count(17)", TaxiRank.BAD_VALUE, rank.count(17));
        due.is("count(MIN)", TaxiRank.BAD_VALUE, rank.count(Integer.MIN_VALUE));
        due.is("count(MAX)", TaxiRank.BAD_VALUE, rank.count(Integer.MAX_VALUE));
        rank.call(9, 8);
        rank.call(10, 9);
        rank.arrive(0);
        Due.retype(rank, "w1");
        int[] before = {0, 0, 2, 0, 1, 1, 0, 2, 0, 0, 2, 30, 7, 240, 45, 4, 2};
        for (int what = 0; what < before.length; what++) {
            due.is("count(" + what + ")", before[what], rank.count(what));
        }
        rank.pass(2);
        rank.pass(28);
        // 5 is back after 8 minutes, 3 after 4, and off again to the place 0
        int[] after = {30, 0, 2, 1, 0, 3, 0, 2, 234, 38, 2, 30, 7, 240, 45, 4, 2};
        for (int what = 0; what < after.length; what++) {
            due.is("count(" + what + ")", after[what], rank.count(what));
        }
        Due.passTo(rank, 1440);
        due.is("count(1)", 1, rank.count(1));
    }
}
