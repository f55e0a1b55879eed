/** Promises 5 to 7: arrive, call, pass. */
public final class PassengersTest {
    private static final Due due = new Due();

    public static void main(String[] args) {
        arrive();
        callErrors();
        callTakers();
        longCallsGoToTheFirst();
        callFromTheWayBack();
        callAtOnce();
        passErrors();
        faresTogether();
        patience();
        shortAndLongFares();
        quickComebacks();
        quickBehindAllThatAreQuick();
        risingPlates();
        callsAreNotQuick();
        rests();
        homeDays();
        ordersWithinAMinute();
        due.end();
    }

    private static void arrive() {
        TaxiRank rank = new TaxiRank();
        due.is("arrive(-1)", TaxiRank.UNKNOWN, rank.arrive(-1));
        due.is("arrive(21)", TaxiRank.UNKNOWN, rank.arrive(21));
        due.is("arrive(MIN)", TaxiRank.UNKNOWN, rank.arrive(Integer.MIN_VALUE));
        due.is("arrive(10)", TaxiRank.BAD_VALUE, rank.arrive(10));
        for (int i = 1; i <= 15; i++) {
            due.is("arrive", i, rank.arrive(i == 11 ? 20 : i - 1));
        }
        due.is("the sixteenth", TaxiRank.FULL, rank.arrive(3));
        due.is("to the rank", TaxiRank.BAD_VALUE, rank.arrive(10));
        due.is("to nowhere", TaxiRank.UNKNOWN, rank.arrive(21));
        due.is("count(4)", 15, rank.count(4));
        due.is("count(15)", 4, rank.count(15));
        due.is("waiting(10, 0)", 20, rank.waiting(10, 0));
        due.is("waiting(14, 0)", 14, rank.waiting(14, 0));
        due.is("waiting(14, 1)", 0, rank.waiting(14, 1));
    }

    private static void callErrors() {
        TaxiRank rank = new TaxiRank();
        due.is("call(-1, 5)", TaxiRank.UNKNOWN, rank.call(-1, 5));
        due.is("call(5, -1)", TaxiRank.UNKNOWN, rank.call(5, -1));
        due.is("call(21, 5)", TaxiRank.UNKNOWN, rank.call(21, 5));
        due.is("call(5, 21)", TaxiRank.UNKNOWN, rank.call(5, 21));
        due.is("call(21, 21)", TaxiRank.UNKNOWN, rank.call(21, 21));
        due.is("call(5, 5)", TaxiRank.BAD_VALUE, rank.call(5, 5));
        due.is("call(5, 6)", TaxiRank.NOT_POSSIBLE, rank.call(5, 6));
        rank.come(10);
        due.is("10 stays at home on day 0", TaxiRank.NOT_POSSIBLE, rank.call(5, 6));
        due.is("count(7)", 0, rank.count(7));
        due.is("count(15)", 1, rank.count(15));
        rank.come(11);
        due.is("call(5, 6)", 11, rank.call(5, 6));
        due.is("no more", TaxiRank.NOT_POSSIBLE, rank.call(5, 6));
        due.is("count(7)", 1, rank.count(7));
    }

    private static void callTakers() {
        TaxiRank rank = Due.withTaxis(32, 21, 13);
        due.is("the first in the line", 32, rank.call(0, 20));
        due.taxi(rank, 32, 1, TaxiRank.NONE, 20, 0, 1, 1, 0, 0, 0, 1);
        due.is("count(5)", 0, rank.count(5));
        due.is("the next one", 21, rank.call(10, 20));
        due.taxi(rank, 21, 2, TaxiRank.NONE, 20, 0, 1, 1, 0, 0, 0, 1);
        due.is("count(5)", 1, rank.count(5));
        due.line(rank, 13);
        due.is("nothing is paid yet", 0, rank.pass(19));
        due.is("21 is paid", 150, rank.pass(1));
        due.taxi(rank, 32, 2, TaxiRank.NONE, 40, 20, 1, 1, 0);
        due.taxi(rank, 21, 3, TaxiRank.NONE, 20, 20, 1, 1, 150);
        due.is("count(5)", 2, rank.count(5));
        due.is("minutes at the wheel", 40, rank.count(9));
        due.is("32 is paid", 270, rank.pass(40));
        due.is("count(8)", 420, rank.count(8));
        due.line(rank, 13, 21);
        due.taxi(rank, 32, 3, TaxiRank.NONE, 20, 60, 1, 1, 270);
    }

    /** The fewest long fares count for passengers of the rank alone. */
    private static void longCallsGoToTheFirst() {
        TaxiRank rank = Due.withTaxis(1, 2);
        rank.call(10, 0);
        rank.pass(40);
        rank.goHome(2);
        rank.come(2);
        due.line(rank, 1, 2);
        due.is("a passenger of the rank to the place 20", 2, rank.rides(20));
        due.is("a call from the rank to there", 1, rank.ifCalled(10, 20, 0));
        due.is("a long call from elsewhere", 1, rank.ifCalled(0, 20, 0));
        due.is("a short one from far away", 1, rank.ifCalled(0, 1, 0));
        due.is("call(0, 20)", 1, rank.call(0, 20));
        due.taxi(rank, 1, 1, TaxiRank.NONE, 20, 40, 2, 2);
    }

    private static void callFromTheWayBack() {
        // 1 and 2 come back from 20, 3 from 0, all with 10 minutes left; 4 stands in the line
        TaxiRank rank = Due.withTaxis(2, 3, 1, 4);
        rank.arrive(20);
        rank.arrive(0);
        rank.arrive(20);
        rank.pass(1);
        rank.pass(30);
        for (int plate = 1; plate <= 3; plate++) {
            due.is("on its way back", 3, rank.taxi(plate, 0));
            due.is("left", 10, rank.taxi(plate, 2));
        }
        due.is("at its side", 0, rank.ifCalled(15, 0, 1));
        due.is("of several the lowest plate", 1, rank.ifCalled(15, 0, 0));
        due.is("at the other side", 3, rank.ifCalled(5, 0, 0));
        due.is("beyond", 10, rank.ifCalled(20, 0, 1));
        due.is("just ahead of the rank", 4, rank.ifCalled(12, 0, 0));
        rank.pass(5);
        due.is("as near as one in the line: that in the line", 5, rank.taxi(1, 2));
        rank.set(0, 1);
        due.is("a way there takes 5 now", 0, rank.ifCalled(15, 0, 1));
        due.is("a way of 2, or 3 back", 2, rank.ifCalled(12, 0, 1));
        due.is("by 4", 4, rank.ifCalled(12, 0, 0));
        due.is("a way of 3, or 2 back", 2, rank.ifCalled(13, 0, 1));
        due.is("by 1", 1, rank.ifCalled(13, 0, 0));
        rank.pass(1);
        due.is("2 there, 2 back: in the line", 4, rank.ifCalled(12, 0, 0));
        rank.goHome(4);
        due.is("1 is nearer than 3", 1, rank.ifCalled(10, 0, 0));
        due.is("by 4 minutes", 4, rank.ifCalled(10, 0, 1));
        due.is("call(17, 12)", 1, rank.call(17, 12));
        due.taxi(rank, 1, 1, TaxiRank.NONE, 3, 36, 2, 1);
        due.is("then 2", 2, rank.call(17, 12));
        due.is("then 3 from the other side", 3, rank.call(17, 12));
        due.is("left", 11, rank.taxi(3, 2));
    }

    private static void callAtOnce() {
        TaxiRank rank = Due.withTaxis(1, 2);
        rank.arrive(20);
        rank.pass(1);
        rank.pass(30);
        due.is("there already", 1, rank.call(15, 10));
        due.taxi(rank, 1, 2, TaxiRank.NONE, 10, 30, 2, 1, 150);
        due.is("count(5)", 2, rank.count(5));
        due.is("paid, and back at once", 90, rank.pass(10));
        due.line(rank, 2, 1);
        due.is("no quick comeback", 0, rank.taxi(1, 7));
    }

    private static void passErrors() {
        TaxiRank rank = new TaxiRank();
        due.is("pass(0)", TaxiRank.BAD_VALUE, rank.pass(0));
        due.is("pass(-1)", TaxiRank.BAD_VALUE, rank.pass(-1));
        due.is("pass(1000)", TaxiRank.BAD_VALUE, rank.pass(1000));
        due.is("pass(MAX)", TaxiRank.BAD_VALUE, rank.pass(Integer.MAX_VALUE));
        due.is("pass(999)", 0, rank.pass(999));
        due.is("count(0)", 999, rank.count(0));
        Due.passTo(rank, 99990);
        due.is("count(0)", 99990, rank.count(0));
        due.is("beyond", TaxiRank.FULL, rank.pass(10));
        due.is("just not beyond", 0, rank.pass(9));
        due.is("count(0)", 99999, rank.count(0));
        due.is("count(1)", 69, rank.count(1));
        due.is("beyond", TaxiRank.FULL, rank.pass(1));
        due.is("out of range", TaxiRank.BAD_VALUE, rank.pass(0));
        due.is("count(15)", 4, rank.count(15));
        // what would be is told beyond the last minute, too
        rank.come(8);
        rank.arrive(3);
        due.is("ridesIn(0)", 1, rank.ridesIn(0));
    }

    private static void faresTogether() {
        TaxiRank rank = Due.withTaxis(1, 2, 3);
        rank.call(10, 11);
        rank.call(10, 8);
        rank.call(10, 13);
        due.is("the first one", 42, rank.pass(2));
        due.is("none in a minute", 0, rank.pass(1));
        due.is("the other two", 54 + 66, rank.pass(3));
        due.is("those from before do not count", 0, rank.pass(999));
        due.is("count(8)", 162, rank.count(8));
        rank.call(10, 11);
        rank.call(10, 11);
        due.is("two in the same minute", 84, rank.pass(2));
        rank.pass(2);
        rank.arrive(11);
        rank.arrive(11);
        rank.arrive(11);
        rank.arrive(11);
        due.is("one taxi is paid twice", 42 * 4, rank.pass(1 + 4 + 2));
    }

    private static void patience() {
        TaxiRank rank = new TaxiRank();
        rank.arrive(1);
        rank.pass(10);
        rank.arrive(2);
        rank.pass(19);
        rank.undo();
        rank.pass(5);
        rank.arrive(3);
        rank.pass(15);
        due.is("the first has left", 2, rank.count(4));
        due.is("20 minutes", 20, rank.waiting(0, 1));
        due.is("15 minutes", 15, rank.waiting(1, 1));
        rank.undo();
        rank.undo();
        rank.undo();
        rank.pass(19);
        due.is("both wait", 2, rank.count(4));
        due.is("29 minutes", 29, rank.waiting(0, 1));
        due.is("19 minutes", 19, rank.waiting(1, 1));
        rank.set(1, 5);
        due.is("both wait until the minute comes", 2, rank.count(4));
        rank.set(1, 20);
        rank.pass(1);
        due.is("both have left", 0, rank.count(4));
        due.is("count(6)", 2, rank.count(6));
        // one leaves ahead of the taxi's coming back in the same minute
        rank = Due.withTaxis(1);
        rank.arrive(12);
        rank.pass(1);
        rank.set(1, 8);
        rank.arrive(3);
        rank.pass(7);
        due.is("still waits", 1, rank.count(4));
        rank.pass(1);
        due.is("left", 1, rank.count(6));
        due.line(rank, 1);
        // and a minute later would have ridden
        rank = Due.withTaxis(1);
        rank.arrive(12);
        rank.pass(1);
        rank.set(1, 9);
        rank.arrive(3);
        rank.pass(8);
        due.is("off", 0, rank.count(4));
        due.is("count(5)", 2, rank.count(5));
        due.is("count(6)", 0, rank.count(6));
        due.taxi(rank, 1, 2, TaxiRank.NONE, 14, 8, 2, 1, 54, 1, 0, 1);
    }

    private static void shortAndLongFares() {
        TaxiRank rank = Due.withTaxis(31, 22, 13);
        due.is("a short one", 31, rank.rides(16));
        rank.arrive(17);
        rank.pass(1);
        due.is("long at 7 places", 1, rank.taxi(31, 5));
        due.is("paid", 114, rank.pass(14));
        rank.pass(14);
        due.line(rank, 22, 13, 31);
        rank.goHome(22);
        rank.goHome(13);
        rank.come(13);
        rank.come(22);
        due.line(rank, 31, 13, 22);
        due.is("the fewest long ones, of several the first", 13, rank.rides(17));
        due.is("a short one goes to the first", 31, rank.rides(16));
        due.is("a short one goes to the first", 31, rank.rides(4));
        due.is("a long one does not", 13, rank.rides(3));
        rank.set(2, 6);
        due.is("now it is long", 13, rank.rides(16));
        rank.set(2, 20);
        due.is("now none is long", 31, rank.rides(0));
        // a long fare by a call counts as long, too
        rank = Due.withTaxis(31, 22);
        rank.call(0, 7);
        due.is("long", 1, rank.taxi(31, 5));
        rank.pass(40);
        rank.goHome(22);
        rank.come(22);
        due.line(rank, 31, 22);
        due.is("31 had a long one", 22, rank.rides(0));
        rank.undo();
        rank.undo();
        // the way of a fare is that with the passenger alone
        rank = Due.withTaxis(31);
        rank.call(0, 6);
        due.is("short", 0, rank.taxi(31, 5));
        due.is("paid", 102, rank.pass(20 + 12));
    }

    private static void quickComebacks() {
        TaxiRank rank = Due.withTaxis(1, 2, 3, 4);
        rank.arrive(12);
        rank.arrive(11);
        rank.arrive(9);
        rank.pass(1);
        due.line(rank, 4);
        rank.pass(3);
        due.line(rank, 4);
        rank.pass(1);
        // 2 and 3 come back in the same minute, by rising plates, ahead of 4
        due.line(rank, 2, 3, 4);
        due.is("quick", 1, rank.taxi(2, 8));
        due.is("quick", 1, rank.taxi(3, 8));
        due.is("not quick", 0, rank.taxi(4, 8));
        due.is("comebacks", 1, rank.taxi(3, 7));
        rank.pass(4);
        due.line(rank, 2, 3, 1, 4);
        // behind those who came back quickly at the head, though another one left from among them
        rank.arrive(11);
        rank.pass(1);
        due.line(rank, 3, 1, 4);
        due.is("off, so it does not stand there", 0, rank.taxi(2, 8));
        rank.pass(4);
        due.line(rank, 3, 1, 2, 4);
        due.is("comebacks", 2, rank.taxi(2, 7));
        // one that goes home and comes is the last one, and stands so
        rank.goHome(3);
        due.is("not quick at home", 0, rank.taxi(3, 8));
        rank.come(3);
        due.line(rank, 1, 2, 4, 3);
        due.is("not quick", 0, rank.taxi(3, 8));
        due.is("comebacks stay", 1, rank.taxi(3, 7));
        // a long fare is no quick comeback
        rank.arrive(0);
        rank.pass(41);
        due.line(rank, 2, 4, 3, 1);
        due.is("not quick", 0, rank.taxi(1, 8));
    }

    private static void quickBehindAllThatAreQuick() {
        TaxiRank rank = Due.withTaxis(1, 2);
        rank.arrive(11);
        rank.arrive(11);
        rank.pass(5);
        due.line(rank, 1, 2);
        due.is("quick", 1, rank.taxi(1, 8));
        due.is("quick", 1, rank.taxi(2, 8));
        rank.arrive(11);
        rank.pass(5);
        due.line(rank, 2, 1);
        due.is("quick", 1, rank.taxi(1, 8));
        // a new one stands behind them, and a quick one ahead of it
        rank.come(3);
        rank.arrive(11);
        rank.pass(5);
        due.line(rank, 1, 2, 3);
        due.is("not quick", 0, rank.taxi(3, 8));
    }

    private static void risingPlates() {
        // in the minute in which the one comes back the rest of the other ends
        for (int plate = 4; plate <= 6; plate += 2) {
            int other = 10 - plate;
            TaxiRank rank = Due.withTaxis(plate);
            rank.set(3, 30);
            rank.call(10, 20);
            rank.pass(40);
            rank.come(other);
            rank.pass(29);
            rank.call(10, 14);
            rank.pass(15);
            due.is("rests", 4, rank.taxi(plate, 0));
            due.is("on its way back", 3, rank.taxi(other, 0));
            rank.pass(1);
            due.line(rank, 4, 6);
        }
        // a quick one stands ahead of one that came back before it in the same minute
        TaxiRank rank = Due.withTaxis(2, 1);
        rank.arrive(12);
        rank.pass(1);
        rank.call(10, 12);
        rank.pass(8);
        due.line(rank, 2, 1);
    }

    private static void callsAreNotQuick() {
        TaxiRank rank = Due.withTaxis(1, 2);
        // a call from the place of the rank is a call all the same
        rank.call(10, 11);
        rank.pass(4);
        due.line(rank, 2, 1);
        // a short fare of the rank, then a call on the way back: the latest fare counts
        rank.arrive(13);
        rank.pass(1);
        rank.pass(6);
        due.is("back", 3, rank.taxi(2, 0));
        rank.goHome(1);
        due.is("call(13, 12)", 2, rank.call(13, 12));
        rank.come(1);
        rank.pass(6);
        due.line(rank, 1, 2);
        due.is("no comeback", 0, rank.taxi(2, 7));
    }

    private static void rests() {
        TaxiRank rank = Due.withTaxis(1, 2);
        rank.set(3, 40);
        rank.arrive(0);
        rank.pass(1);
        rank.pass(39);
        due.taxi(rank, 1, 3, TaxiRank.NONE, 1, 39);
        rank.pass(1);
        due.taxi(rank, 1, 4, TaxiRank.NONE, 45, 40, 1, 1, 150, 0, 0, 0);
        due.is("at the wheel", 40, rank.count(9));
        rank.pass(44);
        due.taxi(rank, 1, 4, TaxiRank.NONE, 1, 40);
        rank.goHome(2);
        rank.come(2);
        rank.pass(1);
        due.line(rank, 2, 1);
        due.taxi(rank, 1, 0, 1, 0, 0, 1, 1, 150, 0, 0, 1);
        due.is("rest is not at the wheel", 40, rank.count(9));
        // a short fare of the rank from which it rests is no quick comeback
        rank = Due.withTaxis(1, 2);
        rank.set(3, 30);
        rank.set(0, 9);
        rank.set(4, 2);
        rank.arrive(8);
        rank.pass(1);
        rank.pass(36);
        due.is("rests", 4, rank.taxi(1, 0));
        due.is("no comeback", 0, rank.taxi(1, 7));
        rank.pass(2);
        due.line(rank, 2, 1);
        due.is("no comeback", 0, rank.taxi(1, 8));
        // one in the line that has been at the wheel for too long stays there and takes nothing
        rank = Due.withTaxis(1, 2);
        rank.arrive(18);
        rank.pass(33);
        due.taxi(rank, 1, 0, 1, 0, 32);
        rank.goHome(2);
        rank.set(3, 32);
        due.is("may not", 0, rank.taxi(1, 9));
        due.is("no call", TaxiRank.NOT_POSSIBLE, rank.call(10, 11));
        due.is("no ride", TaxiRank.NONE, rank.rides(11));
        rank.set(3, 33);
        due.is("may", 1, rank.taxi(1, 9));
        due.is("a call", 1, rank.call(10, 11));
    }

    private static void homeDays() {
        TaxiRank rank = Due.withTaxis(10, 21);
        due.is("stays at home", 0, rank.taxi(10, 9));
        due.is("may", 1, rank.taxi(21, 9));
        Due.passTo(rank, 1439);
        due.is("day", 0, rank.count(1));
        rank.arrive(5);
        due.is("rides now", 21, rank.rides(5));
        due.is("in a minute", 1, rank.ridesIn(0));
        rank.pass(1);
        due.is("day", 1, rank.count(1));
        due.is("10 took the passenger on the next day", 2, rank.taxi(10, 0));
        due.is("21 stays at home now", 0, rank.taxi(21, 9));
        due.is("10 may", 1, rank.taxi(10, 9));
        // on day 10 the last digit is 0 again
        Due.passTo(rank, 14400);
        due.is("day", 10, rank.count(1));
        due.is("stays at home", 0, rank.taxi(10, 9));
        due.is("may", 1, rank.taxi(21, 9));
    }

    private static void ordersWithinAMinute() {
        // a taxi that comes back takes a passenger in the same minute
        TaxiRank rank = Due.withTaxis(1);
        rank.arrive(11);
        rank.pass(1);
        rank.arrive(9);
        rank.pass(4);
        due.taxi(rank, 1, 2, TaxiRank.NONE, 2, 4, 2, 0, 42, 1, 0, 1);
        due.is("inLineIn(1)", 4, rank.inLineIn(1));
        // passengers in their order: the first gets the first taxi
        rank = Due.withTaxis(7, 5);
        rank.arrive(0);
        rank.arrive(1);
        rank.arrive(2);
        rank.pass(1);
        due.is("left", 20, rank.taxi(7, 2));
        due.is("left", 18, rank.taxi(5, 2));
        due.is("one waits", 2, rank.waiting(0, 0));
        due.is("taken", 2, rank.count(5));
        // by rising plates, those that rest too; a long fare goes behind in the line
        rank = Due.withTaxis(9, 8);
        rank.call(10, 20);
        rank.call(10, 0);
        rank.pass(40);
        due.line(rank, 8, 9);
        due.is("fares together", 300, rank.count(8));
    }
}
