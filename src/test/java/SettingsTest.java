/** What each setting does: at first, at its smallest and its largest value, and just beside the value. */
public final class SettingsTest {
    private static final int NOT_POSSIBLE = TaxiRank.NOT_POSSIBLE;
    private static final int NONE = TaxiRank.NONE;
    private static final Due due = new Due();

    public static void main(String[] args) {
        for (int pace = 1; pace <= 9; pace++) {
            pace(pace);
        }
        longestWay();
        paceAsAWayBegins();
        patienceOfOneMinute();
        patienceOfTwoMinutes();
        patience(3);
        patience(30);
        patience(239);
        patience(240);
        patienceThatShrinks();
        for (int places = 1; places <= 20; places++) {
            longFareByCall(places);
        }
        for (int places = 1; places <= 11; places++) {
            longFareOfTheRank(places);
        }
        longAsItIsTaken();
        restsAtTheShortestWork();
        mayNotOnTheWayBack();
        mayNotInTheLine();
        longestWork();
        workThatGrowsAndShrinks();
        rest(1);
        rest(45);
        rest(240);
        restAsItBegan();
        due.end();
    }

    private static TaxiRank with(int which, int value, int... plates) {
        TaxiRank rank = Due.withTaxis(plates);
        rank.set(which, value);
        due.is("setting " + which, value, rank.count(10 + which));
        return rank;
    }

    /** There, on, and back: the shortest ways that there are. */
    private static void pace(int pace) {
        TaxiRank rank = with(0, pace, 1);
        due.is("minutes to the caller", pace, rank.ifCalled(11, 12, 1));
        due.is("call(11, 12)", 1, rank.call(11, 12));
        due.is("left", pace, rank.taxi(1, 2));
        rank.pass(pace);
        due.is("with the caller", 2, rank.taxi(1, 0));
        due.is("left", pace, rank.taxi(1, 2));
        due.is("paid", 42, rank.pass(pace));
        due.is("on its way back", 3, rank.taxi(1, 0));
        due.is("left", 2 * pace, rank.taxi(1, 2));
        due.is("in the line in", 2 * pace, rank.inLineIn(1));
        if (pace > 1) {
            rank.pass(2 * pace - 1);
            due.is("one minute is left", 1, rank.taxi(1, 2));
            rank.pass(1);
        } else {
            rank.pass(2);
        }
        due.taxi(rank, 1, 0, 0, 0, 4 * pace, 1, 0, 42, 0, 0, 1);
    }

    private static void longestWay() {
        TaxiRank rank = with(0, 9, 1);
        rank.set(3, 999);
        due.is("minutes to the caller", 90, rank.ifCalled(0, 20, 1));
        rank.call(0, 20);
        due.is("in the line in", 360, rank.inLineIn(1));
        rank.pass(90);
        due.is("with the caller", 180, rank.taxi(1, 2));
        due.is("not paid yet", 0, rank.pass(179));
        due.is("paid", 270, rank.pass(1));
        due.is("on its way back", 90, rank.taxi(1, 2));
        due.is("from its way back to the other end", 180, rank.ifCalled(0, 1, 1));
        due.is("call(0, 20)", 1, rank.call(0, 20));
        due.is("left", 180, rank.taxi(1, 2));
        due.is("in the line in", 450, rank.inLineIn(1));
    }

    private static void paceAsAWayBegins() {
        TaxiRank rank = with(0, 9, 1);
        rank.call(0, 20);
        rank.set(0, 1);
        due.is("on its way to the caller as it began", 90, rank.taxi(1, 2));
        rank.pass(90);
        due.is("with the caller by the new one", 20, rank.taxi(1, 2));
        rank.set(0, 9);
        due.is("as it began", 20, rank.taxi(1, 2));
        rank.pass(20);
        due.is("on its way back by the new one", 90, rank.taxi(1, 2));
        rank.set(0, 1);
        due.is("as it began", 90, rank.taxi(1, 2));
        // 90 minutes away from the rank, and a place is 10 minutes away at most
        due.is("to the end on its side", 80, rank.ifCalled(20, 19, 1));
        due.is("to the rank", 90, rank.ifCalled(10, 9, 1));
        due.is("to the other end", 100, rank.ifCalled(0, 1, 1));
    }

    private static void patienceOfOneMinute() {
        TaxiRank rank = with(1, 1, 1);
        rank.arrive(5);
        due.is("never rides, though there is a taxi", NONE, rank.ridesIn(0));
        rank.pass(1);
        due.is("has left", 1, rank.count(6));
        due.is("nobody was taken", 0, rank.count(5));
        due.line(rank, 1);
    }

    private static void patienceOfTwoMinutes() {
        TaxiRank rank = with(1, 2, 1);
        rank.arrive(5);
        due.is("rides", 1, rank.ridesIn(0));
        rank.pass(1);
        due.is("has not left", 0, rank.count(6));
        due.is("was taken", 1, rank.count(5));
    }

    private static void patience(int minutes) {
        TaxiRank rank = with(1, minutes);
        rank.arrive(5);
        due.is("leaves without a taxi", NONE, rank.ridesIn(0));
        rank.pass(minutes - 1);
        due.is("waits", minutes - 1, rank.waiting(0, 1));
        due.is("has not left", 0, rank.count(6));
        rank.pass(1);
        due.is("waits no more", 0, rank.count(4));
        due.is("has left after " + minutes, 1, rank.count(6));
        // with a taxi that comes a minute before, the passenger rides in the last minute
        rank.undo();
        rank.undo();
        rank.pass(minutes - 2);
        rank.come(1);
        due.is("rides", 1, rank.ridesIn(0));
        rank.pass(1);
        due.is("was taken", 1, rank.count(5));
        due.is("nobody left", 0, rank.count(6));
    }

    private static void patienceThatShrinks() {
        TaxiRank rank = new TaxiRank();
        rank.arrive(1);
        rank.pass(10);
        rank.arrive(2);
        rank.pass(1);
        rank.arrive(3);
        rank.set(1, 3);
        due.is("nobody leaves as it is set", 3, rank.count(4));
        due.is("the first one leaves, for it has waited for more", NONE, rank.ridesIn(0));
        rank.pass(1);
        due.is("two wait", 2, rank.count(4));
        due.is("the first of them", 2, rank.waiting(0, 0));
        due.is("has waited for 2", 2, rank.waiting(0, 1));
        rank.pass(1);
        due.is("one waits", 1, rank.count(4));
        due.is("to the place 3", 3, rank.waiting(0, 0));
        rank.set(1, 240);
        rank.pass(200);
        due.is("waits for long", 202, rank.waiting(0, 1));
        due.is("count(6)", 2, rank.count(6));
    }

    /** As many places as the setting tells are long, one place fewer is short. */
    private static void longFareByCall(int places) {
        TaxiRank rank = with(2, places, 1, 2);
        due.is("call", 1, rank.call(0, places));
        due.is("long at " + places, 1, rank.taxi(1, 5));
        if (places > 1) {
            due.is("call", 2, rank.call(places - 1, 0));
            due.is("short at " + (places - 1), 0, rank.taxi(2, 5));
        }
    }

    /** A passenger of the rank has 10 places to go at most. */
    private static void longFareOfTheRank(int places) {
        TaxiRank rank = with(2, places, 1, 2);
        rank.call(0, 20);
        rank.pass(80);
        rank.goHome(2);
        rank.come(2);
        due.line(rank, 1, 2);
        if (places <= 10) {
            due.is("a long one with 2, which had none", 2, rank.rides(10 - places));
            due.is("to the other side", 2, rank.rides(10 + places));
        }
        if (places > 1) {
            due.is("a short one with the first", 1, rank.rides(10 - (places - 1)));
            due.is("to the other side", 1, rank.rides(10 + (places - 1)));
        }
    }

    private static void longAsItIsTaken() {
        TaxiRank rank = with(2, 5, 1);
        rank.arrive(15);
        rank.pass(1);
        rank.arrive(6);
        rank.set(2, 6);
        rank.pass(20);
        due.is("it was long as it was taken, so no quick comeback", 0, rank.taxi(1, 7));
        due.is("off with the other one", 2, rank.taxi(1, 0));
        rank.set(2, 1);
        rank.pass(16);
        due.is("it was short as it was taken", 1, rank.taxi(1, 7));
        due.is("long ones", 1, rank.taxi(1, 5));
        rank.call(10, 11);
        due.is("a call is long or not as it is taken", 2, rank.taxi(1, 5));
        rank.set(2, 20);
        due.is("and stays so", 2, rank.taxi(1, 5));
    }

    /** A taxi that has been at the wheel for 28 minutes of 30, and ways of one minute a place. */
    private static TaxiRank after28Minutes() {
        TaxiRank rank = with(3, 30, 1);
        rank.call(10, 17);
        rank.pass(28);
        rank.set(0, 1);
        due.taxi(rank, 1, 0, 0, 0, 28, 1, 1, 114, 0, 0, 1);
        return rank;
    }

    private static void restsAtTheShortestWork() {
        TaxiRank rank = after28Minutes();
        rank.call(10, 11);
        rank.pass(1);
        due.is("29 on its way back: may", 1, rank.taxi(1, 9));
        due.is("takes a call", 1, rank.ifCalled(11, 12, 0));
        rank.pass(1);
        due.taxi(rank, 1, 4, NONE, 45, 30, 2, 1, 156, 0, 0, 0);
    }

    private static void mayNotOnTheWayBack() {
        TaxiRank rank = after28Minutes();
        rank.call(10, 12);
        rank.pass(2);
        due.is("30 on its way back: may not", 0, rank.taxi(1, 9));
        due.is("takes no call", NOT_POSSIBLE, rank.ifCalled(12, 11, 0));
        due.is("takes no call", NOT_POSSIBLE, rank.call(12, 11));
        due.is("no rest before it is back", 3, rank.taxi(1, 0));
        rank.pass(2);
        due.taxi(rank, 1, 4, NONE, 45, 32, 2, 1, 168, 0, 0, 0);
    }

    private static void mayNotInTheLine() {
        TaxiRank rank = after28Minutes();
        rank.set(3, 31);
        rank.arrive(11);
        rank.pass(3);
        due.taxi(rank, 1, 0, 0, 0, 30, 2, 1, 156, 1, 1, 1);
        rank.set(3, 30);
        due.is("30 in the line: may not", 0, rank.taxi(1, 9));
        due.is("the reason", 3, rank.reason(1, 5));
        due.is("nobody rides", NONE, rank.rides(5));
        due.is("takes no call", NOT_POSSIBLE, rank.call(10, 11));
        rank.arrive(5);
        rank.pass(1);
        due.line(rank, 1);
        due.is("the passenger waits", 1, rank.count(4));
    }

    private static void longestWork() {
        // 360 + 360 minutes by the slowest ways, 240 and 36 by others: 996
        TaxiRank rank = with(3, 999, 1);
        int[] paces = {9, 9, 6, 2};
        int[] ends = {20, 20, 20, 1};
        for (int i = 0; i < paces.length; i++) {
            rank.set(0, paces[i]);
            due.is("call", 1, ends[i] == 20 ? rank.call(0, 20) : rank.call(10, ends[i]));
            rank.pass(40 * paces[i]);
        }
        rank.set(0, 2);
        due.taxi(rank, 1, 0, 0, 0, 996, 4, 4, 948, 0, 0, 1);
        rank.keep();
        rank.call(10, 11);
        rank.pass(2);
        due.is("998 on its way back: may", 1, rank.taxi(1, 9));
        rank.set(0, 1);
        rank.pass(2);
        due.taxi(rank, 1, 4, NONE, 45, 1000, 5, 4, 990, 0, 0, 0);
        rank.restore();
        rank.call(10, 11);
        rank.set(0, 1);
        rank.pass(2);
        rank.pass(1);
        due.taxi(rank, 1, 4, NONE, 45, 999, 5, 4, 990, 0, 0, 0);
        rank.restore();
        rank.set(0, 1);
        rank.call(10, 11);
        rank.pass(2);
        due.taxi(rank, 1, 0, 0, 0, 998, 5, 4, 990, 0, 0, 1);
        rank.set(3, 998);
        due.is("998 of 998: may not", 0, rank.taxi(1, 9));
    }

    private static void workThatGrowsAndShrinks() {
        TaxiRank rank = with(3, 40, 1);
        rank.call(10, 20);
        rank.pass(39);
        rank.set(3, 41);
        rank.pass(1);
        due.is("40 of 41: no rest", 0, rank.taxi(1, 0));
        rank.undo();
        rank.undo();
        rank.pass(1);
        due.is("40 of 40: a rest", 4, rank.taxi(1, 0));
        rank.set(3, 999);
        due.is("it rests on", 4, rank.taxi(1, 0));
        due.is("for as long", 45, rank.taxi(1, 2));
        due.is("but may take a fare by its minutes", 1, rank.taxi(1, 9));
        due.is("though no call reaches it", NOT_POSSIBLE, rank.call(10, 11));
        due.is("for it is not in the line", 1, rank.reason(1, 5));
    }

    private static void rest(int minutes) {
        TaxiRank rank = with(4, minutes, 1);
        rank.set(3, 30);
        rank.call(10, 20);
        rank.pass(40);
        due.taxi(rank, 1, 4, NONE, minutes, 40, 1, 1, 150, 0, 0, 0);
        due.is("in the line in", minutes, rank.inLineIn(1));
        if (minutes > 1) {
            rank.pass(minutes - 1);
            due.taxi(rank, 1, 4, NONE, 1, 40, 1, 1, 150, 0, 0, 0);
        }
        rank.come(2);
        due.line(rank, 2);
        rank.pass(1);
        due.line(rank, 2, 1);
        due.taxi(rank, 1, 0, 1, 0, 0, 1, 1, 150, 0, 0, 1);
        due.is("no minute at the wheel more", 40, rank.count(9));
    }

    private static void restAsItBegan() {
        TaxiRank rank = with(3, 30, 1);
        rank.call(10, 20);
        rank.pass(39);
        rank.set(4, 240);
        rank.pass(1);
        due.is("by the setting as it begins", 240, rank.taxi(1, 2));
        rank.set(4, 1);
        due.is("as it began", 240, rank.taxi(1, 2));
        rank.pass(239);
        due.is("rests", 4, rank.taxi(1, 0));
        rank.pass(1);
        due.line(rank, 1);
    }
}
