/** The number of the day and its last digit, the end of a day, and the clock at its end. */
public final class DaysTest {
    private static final int BAD_VALUE = TaxiRank.BAD_VALUE;
    private static final int FULL = TaxiRank.FULL;
    private static final int NOT_POSSIBLE = TaxiRank.NOT_POSSIBLE;
    private static final int NONE = TaxiRank.NONE;
    private static final int DAY = 1440;
    private static final int LAST_DAY = 69;
    private static final int LAST_MINUTE = 99999;
    private static final Due due = new Due();

    public static void main(String[] args) {
        numbers();
        for (int digit = 0; digit < 10; digit++) {
            lastDigit(digit);
        }
        otherDigits();
        homeDayOfRides();
        homeDayOfCalls();
        homeDayOfCallsOnTheWayBack();
        wayOverTheEndOfTheDay();
        quickOverTheEndOfTheDay();
        accountsOverTheEndOfTheDay();
        restOverTheEndOfTheDay();
        passengerAtTheEndOfTheDay();
        passengersOverTheEndOfTheDay();
        comesAndGoesOnItsHomeDay();
        lastMinute();
        lastMinuteByAText();
        actsInTheLastMinute();
        backFromTheLastMinute();
        due.end();
    }

    private static void numbers() {
        TaxiRank rank = new TaxiRank();
        due.is("the first day", 0, rank.count(1));
        int[] clocks = {1, 1439, 1440, 1441, 2879, 2880, 14399, 14400, 99359, 99360, 99999};
        int[] days = {0, 0, 1, 1, 1, 2, 9, 10, 68, 69, 69};
        for (int i = 0; i < clocks.length; i++) {
            Due.passTo(rank, clocks[i]);
            due.is("the clock", clocks[i], rank.count(0));
            due.is("the day at " + clocks[i], days[i], rank.count(1));
        }
    }

    /** Looks at the first and the last minute of every day that the clock knows. */
    private static void lastDigit(int digit) {
        int plate = 100 * ((digit + 1) % 10) + 10 * ((digit + 2) % 10) + digit;
        TaxiRank rank = Due.withTaxis(plate);
        for (int day = 0; day <= LAST_DAY; day++) {
            int may = day % 10 == digit ? 0 : 1;
            due.is("plate " + plate + " as day " + day + " begins", may, rank.taxi(plate, 9));
            Due.passTo(rank, Math.min(DAY * day + DAY - 1, LAST_MINUTE));
            due.is("plate " + plate + " as day " + day + " ends", may, rank.taxi(plate, 9));
            if (day < LAST_DAY) {
                rank.pass(1);
            }
        }
        due.is("the last day", LAST_DAY, rank.count(1));
    }

    private static void otherDigits() {
        TaxiRank rank = Due.withTaxis(0, 10, 100, 990, 1, 101, 991);
        for (int plate : new int[] {0, 10, 100, 990}) {
            due.is("stays at home on day 0", 0, rank.taxi(plate, 9));
        }
        for (int plate : new int[] {1, 101, 991}) {
            due.is("may on day 0", 1, rank.taxi(plate, 9));
        }
        Due.passTo(rank, 10 * DAY);
        due.is("0 stays at home on day 10", 0, rank.taxi(0, 9));
        due.is("10 stays at home on day 10", 0, rank.taxi(10, 9));
        due.is("101 may on day 10", 1, rank.taxi(101, 9));
        Due.passTo(rank, 11 * DAY);
        due.is("10 may on day 11", 1, rank.taxi(10, 9));
        due.is("100 may on day 11", 1, rank.taxi(100, 9));
        due.is("101 stays at home on day 11", 0, rank.taxi(101, 9));
    }

    private static void homeDayOfRides() {
        TaxiRank rank = Due.withTaxis(21, 32);
        Due.passTo(rank, DAY - 1);
        due.is("day 0: the first one, short", 21, rank.rides(11));
        due.is("day 0: the first one, long", 21, rank.rides(0));
        due.is("would", 0, rank.reason(21, 11));
        rank.pass(1);
        due.is("day 1: the other one, short", 32, rank.rides(11));
        due.is("day 1: the other one, long", 32, rank.rides(0));
        due.is("stays at home", 2, rank.reason(21, 11));
        due.is("it stands in the line all the same", 21, rank.line(0));
        Due.passTo(rank, 2 * DAY - 1);
        due.is("day 1 still", 32, rank.rides(11));
        rank.pass(1);
        due.is("day 2: the first one", 21, rank.rides(11));
        due.is("stays at home", 2, rank.reason(32, 11));
    }

    private static void homeDayOfCalls() {
        TaxiRank rank = Due.withTaxis(21, 32);
        Due.passTo(rank, DAY - 1);
        due.is("day 0", 21, rank.ifCalled(5, 6, 0));
        rank.pass(1);
        due.is("day 1", 32, rank.ifCalled(5, 6, 0));
        rank.goHome(32);
        due.is("day 1, and no other", NOT_POSSIBLE, rank.ifCalled(5, 6, 0));
        due.is("day 1, and no other", NOT_POSSIBLE, rank.call(5, 6));
        Due.passTo(rank, 2 * DAY);
        due.is("day 2", 21, rank.call(5, 6));
    }

    private static void homeDayOfCallsOnTheWayBack() {
        // 21 and 32 come back from 20, with 20 minutes left as 21's day at home begins
        TaxiRank rank = Due.withTaxis(21, 32);
        Due.passTo(rank, DAY - 20);
        rank.call(10, 20);
        rank.call(10, 20);
        rank.pass(19);
        due.is("with its passenger", 2, rank.taxi(21, 0));
        rank.pass(1);
        due.is("on its way back", 3, rank.taxi(21, 0));
        due.is("minutes left", 20, rank.taxi(21, 2));
        due.is("21 stays at home, so 32", 32, rank.ifCalled(20, 19, 0));
        due.is("call(20, 19)", 32, rank.call(20, 19));
        due.is("none is left", NOT_POSSIBLE, rank.call(20, 19));
        rank.pass(20);
        due.is("21 comes back all the same", 21, rank.line(0));
    }

    private static void wayOverTheEndOfTheDay() {
        TaxiRank rank = Due.withTaxis(21);
        Due.passTo(rank, DAY - 2);
        due.is("call(8, 20)", 21, rank.call(8, 20));
        rank.pass(2);
        due.is("its day at home has begun", 1, rank.count(1));
        due.is("may take no fare", 0, rank.taxi(21, 9));
        due.is("on its way to the caller", 1, rank.taxi(21, 0));
        rank.pass(2);
        due.is("takes the caller with it", 2, rank.taxi(21, 0));
        due.is("paid", 174, rank.pass(24));
        rank.pass(20);
        due.taxi(rank, 21, 0, 0, 0, 48, 1, 1, 174, 0, 0, 0);
    }

    private static void quickOverTheEndOfTheDay() {
        TaxiRank rank = Due.withTaxis(21, 32);
        Due.passTo(rank, DAY - 5);
        rank.arrive(12);
        rank.pass(1);
        due.line(rank, 32);
        rank.pass(8);
        due.is("the day", 1, rank.count(1));
        due.line(rank, 21, 32);
        due.is("quick", 1, rank.taxi(21, 8));
        due.is("stays at home", 0, rank.taxi(21, 9));
        due.is("so the next one rides", 32, rank.rides(11));
    }

    /** A new day alone changes no account, and nobody's place in the line. */
    private static void accountsOverTheEndOfTheDay() {
        TaxiRank rank = Due.withTaxis(32, 43);
        rank.set(1, 10);
        rank.call(9, 0);
        rank.pass(40);
        rank.goHome(43);
        rank.come(43);
        rank.arrive(11);
        rank.pass(5);
        rank.goHome(43);
        rank.call(10, 0);
        rank.arrive(1);
        rank.pass(11);
        rank.pass(29);
        rank.arrive(11);
        rank.pass(5);
        rank.come(43);
        due.line(rank, 32, 43);
        due.taxi(rank, 32, 0, 0, 0, 88, 4, 2, 372, 2, 1, 1);
        for (int clock = 90; clock <= 13 * DAY; clock += DAY) {
            Due.passTo(rank, clock);
            due.line(rank, 32, 43);
            due.taxi(rank, 32, 0, 0, 0, 88, 4, 2, 372, 2, 1, clock / DAY % 10 == 2 ? 0 : 1);
            due.is("passengers and callers", 4, rank.count(5));
            due.is("passengers who left", 1, rank.count(6));
            due.is("calls", 2, rank.count(7));
            due.is("coins", 372, rank.count(8));
            due.is("minutes at the wheel", 88, rank.count(9));
        }
    }

    private static void restOverTheEndOfTheDay() {
        TaxiRank rank = Due.withTaxis(21);
        rank.set(3, 30);
        Due.passTo(rank, DAY - 41);
        rank.call(10, 20);
        rank.pass(40);
        due.is("rests", 4, rank.taxi(21, 0));
        rank.pass(45);
        due.taxi(rank, 21, 0, 0, 0, 0, 1, 1, 150, 0, 0, 0);
        due.is("stays at home", 2, rank.reason(21, 5));
    }

    private static void passengerAtTheEndOfTheDay() {
        // in the last minute of day 0 the passenger rides with 21, in the first one of day 1 with 32
        TaxiRank rank = Due.withTaxis(21, 32);
        Due.passTo(rank, DAY - 2);
        rank.arrive(5);
        rank.pass(1);
        due.is("21 is off", 2, rank.taxi(21, 0));
        rank = Due.withTaxis(21, 32);
        Due.passTo(rank, DAY - 1);
        rank.arrive(5);
        due.is("21 would ride now", 21, rank.rides(5));
        rank.pass(1);
        due.is("21 is not off", 0, rank.taxi(21, 0));
        due.is("32 is off", 2, rank.taxi(32, 0));
    }

    private static void passengersOverTheEndOfTheDay() {
        // 10 may take nobody on day 0; on day 1 it takes the one who has waited for 29 minutes
        TaxiRank rank = Due.withTaxis(10);
        Due.passTo(rank, DAY - 30);
        rank.arrive(4);
        due.is("would leave as day 1 begins", NONE, rank.ridesIn(0));
        rank.pass(1);
        rank.arrive(5);
        due.is("leaves as day 1 begins", NONE, rank.ridesIn(0));
        due.is("rides as day 1 begins", 29, rank.ridesIn(1));
        rank.pass(28);
        due.is("the last minute of day 0", 2, rank.count(4));
        due.is("waited", 29, rank.waiting(0, 1));
        rank.pass(1);
        due.is("nobody waits", 0, rank.count(4));
        due.is("one left", 1, rank.count(6));
        due.is("one was taken", 1, rank.count(5));
        due.is("to the place 5", 10, rank.taxi(10, 2));
    }

    private static void comesAndGoesOnItsHomeDay() {
        TaxiRank rank = new TaxiRank();
        due.is("come(10)", 0, rank.come(10));
        due.is("in the line", 0, rank.inLineIn(10));
        due.is("may not", 0, rank.taxi(10, 9));
        due.is("goHome(10)", 0, rank.goHome(10));
        due.is("may not at home, either", 0, rank.taxi(10, 9));
        Due.passTo(rank, DAY);
        due.is("may on the next day, at home, too", 1, rank.taxi(10, 9));
        due.is("not in the line", 1, rank.reason(10, 5));
    }

    private static void lastMinute() {
        TaxiRank rank = new TaxiRank();
        Due.passTo(rank, LAST_MINUTE - 999);
        due.is("the most minutes, up to the end", 0, rank.pass(999));
        due.is("the clock", LAST_MINUTE, rank.count(0));
        rank.undo();
        rank.pass(1);
        due.is("one too many", FULL, rank.pass(999));
        due.is("the clock", LAST_MINUTE - 998, rank.count(0));
        due.is("as many as are left", 0, rank.pass(998));
        due.is("the clock", LAST_MINUTE, rank.count(0));
        due.is("one more", FULL, rank.pass(1));
        due.is("many more", FULL, rank.pass(999));
        due.is("no minute", BAD_VALUE, rank.pass(0));
        due.is("too many in any case", BAD_VALUE, rank.pass(1000));
        due.is("the clock", LAST_MINUTE, rank.count(0));
        due.is("the day", LAST_DAY, rank.count(1));
    }

    private static void lastMinuteByAText() {
        TaxiRank rank = new TaxiRank();
        Due.passTo(rank, LAST_MINUTE - 2);
        Due.retype(rank, ".1;.1");
        due.is("up to the end", 2, rank.perform());
        due.is("the clock", LAST_MINUTE, rank.count(0));
        due.is("beyond", NOT_POSSIBLE, rank.perform());
        due.is("the first order", 0, rank.stopped(0));
        due.is("the error", FULL, rank.stopped(1));
        rank.undo();
        Due.retype(rank, ".1;.1;w3;.1;w4");
        due.is("the third minute", NOT_POSSIBLE, rank.perform());
        due.is("the fourth order", 3, rank.stopped(0));
        due.is("the error", FULL, rank.stopped(1));
        due.is("no minute has passed", LAST_MINUTE - 2, rank.count(0));
        due.is("nobody waits", 0, rank.count(4));
    }

    private static void actsInTheLastMinute() {
        TaxiRank rank = new TaxiRank();
        Due.passTo(rank, LAST_MINUTE);
        due.is("come(1)", 0, rank.come(1));
        due.is("come(9)", 1, rank.come(9));
        due.is("9 stays at home on day 69", 0, rank.taxi(9, 9));
        due.is("arrive(3)", 1, rank.arrive(3));
        due.is("waits", 0, rank.waiting(0, 1));
        due.is("call(5, 6)", 1, rank.call(5, 6));
        due.is("set(0, 1)", 2, rank.set(0, 1));
        due.is("goHome(9)", 0, rank.goHome(9));
        due.is("keep()", LAST_MINUTE, rank.keep());
        due.is("restore()", LAST_MINUTE, rank.restore());
        due.is("count(15)", 4, rank.count(15));
        due.is("on its way to the caller", 1, rank.taxi(1, 0));
        due.is("no minute more", FULL, rank.pass(1));
        due.is("when it would be in the line is told all the same", 10 + 1 + 4 + 7 + 7, rank.inLineIn(1));
        rank.come(8);
        due.is("and when the passenger would ride", 1, rank.ridesIn(0));
    }

    private static void backFromTheLastMinute() {
        TaxiRank rank = Due.withTaxis(1);
        due.is("keep()", 0, rank.keep());
        Due.passTo(rank, LAST_MINUTE - 3);
        rank.arrive(12);
        due.is("up to the end", 0, rank.pass(3));
        due.is("the passenger rides", 1, rank.count(5));
        due.is("beyond", FULL, rank.pass(1));
        due.is("undo()", 3, rank.undo());
        due.is("the clock", LAST_MINUTE - 3, rank.count(0));
        due.is("beyond", FULL, rank.pass(4));
        due.is("not beyond", 0, rank.pass(2));
        due.is("restore()", 0, rank.restore());
        due.is("minutes pass again", 0, rank.pass(999));
        due.is("the clock", 999, rank.count(0));
    }
}
