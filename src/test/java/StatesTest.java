/**
 * What is told of a taxi in each of the six things that it may do: on another day and on its day at home, after few
 * minutes at the wheel and after many.
 */
public final class StatesTest {
    private static final int NONE = TaxiRank.NONE;
    private static final int DAY = 1440;
    /** Behind QUICK, which is another way to stand in the line. */
    private static final int STATES = 7;
    private static final int QUICK = 6;
    /** For each state of thatDoes: what taxi(plate, 0) .. taxi(plate, 9) tell. */
    private static final int[][] ROWS = {
        {0, 0, 0, 44, 2, 1, 192, 1, 0, 1},
        {1, NONE, 10, 44, 3, 1, 192, 1, 0, 1},
        {2, NONE, 14, 44, 3, 2, 192, 1, 0, 1},
        {3, NONE, 14, 58, 3, 2, 306, 1, 0, 1},
        {4, NONE, 45, 52, 3, 1, 246, 1, 0, 1},
        {5, NONE, 0, 44, 2, 1, 192, 1, 0, 1},
        {0, 0, 0, 48, 3, 1, 234, 2, 1, 1}};
    private static final Due due = new Due();

    public static void main(String[] args) {
        for (int state = 0; state < STATES; state++) {
            row(state);
            manyMinutesAtTheWheel(state);
            dayAtHome(state);
            mostCoins(state);
            fewestCoins(state);
            accountsThroughHomeAndRest(state);
            settingsLeaveIt(state);
        }
        plates();
        sharesAreCoinsNotFares();
        due.end();
    }

    /** The only taxi in the line has a quick comeback and a long fare, and 44 minutes at the wheel, 45 minutes later. */
    private static void comeAndEarn(TaxiRank rank, int plate) {
        rank.come(plate);
        rank.arrive(11);
        rank.pass(5);
        rank.call(10, 0);
        rank.pass(40);
        due.taxi(rank, plate, ROWS[0]);
    }

    /** Brings the only taxi of the line into a state; it takes as many minutes as minutesInto tells. */
    private static void bring(TaxiRank rank, int plate, int state) {
        switch (state) {
            case 1:
                rank.call(5, 6);
                break;
            case 2:
                rank.call(10, 3);
                break;
            case 3:
                rank.call(10, 3);
                rank.pass(14);
                break;
            case 4:
                rank.set(3, 50);
                rank.call(10, 8);
                rank.pass(8);
                rank.set(3, 240);
                break;
            case 5:
                rank.goHome(plate);
                break;
            case QUICK:
                rank.arrive(11);
                rank.pass(5);
                break;
            default:
                break;
        }
    }

    private static int minutesInto(int state) {
        int[] minutes = {0, 0, 0, 14, 8, 0, 5};
        return minutes[state];
    }

    private static TaxiRank thatDoes(int plate, int state) {
        TaxiRank rank = new TaxiRank();
        comeAndEarn(rank, plate);
        bring(rank, plate, state);
        return rank;
    }

    private static void row(int state) {
        TaxiRank rank = thatDoes(5, state);
        due.taxi(rank, 5, ROWS[state]);
        due.is("minutes at the wheel of all", ROWS[state][3], rank.count(9));
        due.is("coins of all", ROWS[state][6], rank.count(8));
    }

    private static void manyMinutesAtTheWheel(int state) {
        TaxiRank rank = thatDoes(5, state);
        int wheel = ROWS[state][3];
        rank.set(3, wheel);
        due.is("as many in the state " + state, 0, rank.taxi(5, 9));
        rank.set(3, wheel - 1);
        due.is("more in the state " + state, 0, rank.taxi(5, 9));
        rank.set(3, wheel + 1);
        due.is("fewer in the state " + state, 1, rank.taxi(5, 9));
        due.is("it does the same", ROWS[state][0], rank.taxi(5, 0));
    }

    /** The day 5 begins as the taxi is in the state. */
    private static void dayAtHome(int state) {
        for (int plate = 5; plate <= 6; plate++) {
            TaxiRank rank = new TaxiRank();
            comeAndEarn(rank, plate);
            Due.passTo(rank, 5 * DAY - 1 - minutesInto(state));
            bring(rank, plate, state);
            due.is("ahead of the day in the state " + state, 1, rank.taxi(plate, 9));
            rank.pass(1);
            due.is("the day", 5, rank.count(1));
            due.is("it does the same", ROWS[state][0], rank.taxi(plate, 0));
            due.is("plate " + plate + " in the state " + state, plate == 5 ? 0 : 1, rank.taxi(plate, 9));
            rank.set(3, 30);
            due.is("may by the day, not by the wheel", 0, rank.taxi(plate, 9));
        }
    }

    private static void mostCoins(int state) {
        TaxiRank rank = thatDoes(5, state);
        rank.come(3);
        rank.come(7);
        due.is("shares(0) in the state " + state, ROWS[state][6], rank.shares(0));
        due.is("shares(1) in the state " + state, 5, rank.shares(1));
        due.is("shares(2) in the state " + state, 3, rank.shares(2));
    }

    private static void fewestCoins(int state) {
        TaxiRank rank = new TaxiRank();
        for (int plate = 3; plate <= 7; plate += 4) {
            rank.come(plate);
            for (int i = 0; i < 3; i++) {
                rank.call(10, 0);
                rank.pass(40);
            }
            due.is("coins", 450, rank.taxi(plate, 6));
            rank.goHome(plate);
        }
        comeAndEarn(rank, 5);
        bring(rank, 5, state);
        due.is("it does", ROWS[state][0], rank.taxi(5, 0));
        due.is("shares(0) in the state " + state, 450 - ROWS[state][6], rank.shares(0));
        due.is("shares(1) in the state " + state, 3, rank.shares(1));
        due.is("shares(2) in the state " + state, 5, rank.shares(2));
    }

    /** The minutes at the wheel are 0 again; what it had and what all had together stays. */
    private static void accountsThroughHomeAndRest(int state) {
        TaxiRank rank = thatDoes(5, state);
        if (rank.inLineIn(5) > 0) {
            rank.pass(rank.inLineIn(5));
        }
        int[] row = new int[10];
        for (int what = 0; what < row.length; what++) {
            row[what] = rank.taxi(5, what);
        }
        int wheel = rank.count(9);
        int coins = rank.count(8);
        rank.goHome(5);
        rank.pass(1);
        due.is("come(5)", 0, rank.come(5));
        due.taxi(rank, 5, 0, 0, 0, 0, row[4], row[5], row[6], row[7], 0, 1);
        due.is("minutes at the wheel of all", wheel, rank.count(9));
        due.is("coins of all", coins, rank.count(8));
        rank.set(3, 30);
        rank.call(10, 0);
        rank.pass(40 + 44);
        due.taxi(rank, 5, 4, NONE, 1, 40, row[4] + 1, row[5] + 1, row[6] + 150, row[7], 0, 0);
        rank.pass(1);
        due.taxi(rank, 5, 0, 0, 0, 0, row[4] + 1, row[5] + 1, row[6] + 150, row[7], 0, 1);
        due.is("minutes at the wheel of all", wheel + 40, rank.count(9));
        due.is("coins of all", coins + 150, rank.count(8));
    }

    /** Whatever is set: what the taxi does goes on as it began, and stays in the accounts as it was. */
    private static void settingsLeaveIt(int state) {
        int[] lowest = {1, 1, 1, 30, 1};
        int[] highest = {9, 240, 20, 999, 240};
        for (int which = 0; which < lowest.length; which++) {
            TaxiRank rank = thatDoes(5, state);
            rank.come(7);
            for (int value : new int[] {lowest[which], highest[which]}) {
                rank.set(which, value);
                for (int what = 0; what <= 8; what++) {
                    due.is("taxi(5, " + what + ") in the state " + state, ROWS[state][what], rank.taxi(5, what));
                }
                due.is("taxi(5, 9)", which == 3 && value == 30 ? 0 : 1, rank.taxi(5, 9));
                due.is("the last one in the line", 7, rank.line(rank.count(3) - 1));
            }
            rank.pass(1);
            due.is("a minute less", Math.max(0, ROWS[state][2] - 1), rank.taxi(5, 2));
        }
    }

    /** Six taxis, each of which does something else. */
    private static void plates() {
        TaxiRank rank = Due.withTaxis(4);
        rank.set(3, 30);
        rank.call(10, 20);
        rank.pass(40);
        rank.come(13);
        rank.call(10, 15);
        rank.pass(10);
        rank.come(22);
        rank.call(10, 15);
        rank.come(31);
        rank.call(0, 5);
        rank.come(45);
        rank.come(56);
        rank.goHome(56);
        int[] plates = {4, 13, 22, 31, 45, 56};
        int[] does = {4, 3, 2, 1, 0, 5};
        for (int i = 0; i < plates.length; i++) {
            due.is("plate(" + i + ")", plates[i], rank.plate(i));
            due.is("taxi(" + plates[i] + ", 0)", does[i], rank.taxi(plates[i], 0));
        }
        due.is("plate(6)", NONE, rank.plate(6));
        due.is("taxis", 6, rank.count(2));
        due.line(rank, 45);
    }

    private static void sharesAreCoinsNotFares() {
        TaxiRank rank = Due.withTaxis(2, 1);
        rank.call(10, 0);
        rank.call(10, 11);
        rank.pass(4);
        rank.call(10, 11);
        rank.pass(36);
        due.taxi(rank, 2, 0, 1, 0, 40, 1, 1, 150);
        due.taxi(rank, 1, 0, 0, 0, 8, 2, 0, 84);
        due.is("shares(0)", 66, rank.shares(0));
        due.is("shares(1)", 2, rank.shares(1));
        due.is("shares(2)", 1, rank.shares(2));
        // what is not paid yet is nobody's share
        rank.call(0, 20);
        due.is("on its way to a long fare", 1, rank.taxi(1, 0));
        due.is("shares(1)", 2, rank.shares(1));
        due.is("paid", 270, rank.pass(20 + 40));
        due.is("shares(0)", 204, rank.shares(0));
        due.is("shares(1)", 1, rank.shares(1));
        due.is("shares(2)", 2, rank.shares(2));
    }
}
