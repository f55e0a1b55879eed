/** Promises 1 to 4: a new object, come, goHome, set. */
public final class TaxisTest {
    private static final Due due = new Due();

    public static void main(String[] args) {
        newObject();
        come();
        comeWithoutRoom();
        goHome();
        goHomeFromRest();
        whateverItDoes();
        set();
        setLeavesWhatBegan();
        due.end();
    }

    private static void newObject() {
        TaxiRank rank = new TaxiRank();
        int[] counts = {0, 0, 0, 0, 0, 0, 0, 0, 0, 0, 2, 30, 7, 240, 45, 0, 0};
        for (int what = 0; what < counts.length; what++) {
            due.is("new: count(" + what + ")", counts[what], rank.count(what));
        }
        due.line(rank);
        due.is("new: plate(0)", TaxiRank.NONE, rank.plate(0));
        due.is("new: waiting(0, 0)", TaxiRank.NONE, rank.waiting(0, 0));
        due.is("new: undo()", TaxiRank.NONE, rank.undo());
        due.is("new: restore()", TaxiRank.NONE, rank.restore());
        due.is("new: stopped(0)", TaxiRank.NONE, rank.stopped(0));
        due.is("UNKNOWN", -1, TaxiRank.UNKNOWN);
        due.is("BAD_VALUE", -2, TaxiRank.BAD_VALUE);
        due.is("FULL", -3, TaxiRank.FULL);
        due.is("NOT_POSSIBLE", -4, TaxiRank.NOT_POSSIBLE);
        due.is("NONE", -5, TaxiRank.NONE);
    }

    private static void come() {
        TaxiRank rank = new TaxiRank();
        due.is("come(-1)", TaxiRank.BAD_VALUE, rank.come(-1));
        due.is("come(1000)", TaxiRank.BAD_VALUE, rank.come(1000));
        due.is("come(MIN)", TaxiRank.BAD_VALUE, rank.come(Integer.MIN_VALUE));
        due.is("come(MAX)", TaxiRank.BAD_VALUE, rank.come(Integer.MAX_VALUE));
        due.is("nothing recorded", 0, rank.count(15));
        due.is("come(999)", 0, rank.come(999));
        due.is("come(0)", 1, rank.come(0));
        due.is("come(500)", 2, rank.come(500));
        due.is("come(500) again", TaxiRank.NOT_POSSIBLE, rank.come(500));
        due.is("recorded", 3, rank.count(15));
        due.line(rank, 999, 0, 500);
        due.is("plate(0)", 0, rank.plate(0));
        due.is("plate(1)", 500, rank.plate(1));
        due.is("plate(2)", 999, rank.plate(2));
        due.taxi(rank, 999, 0, 0, 0, 0, 0, 0, 0, 0, 0, 1);
        // a taxi that comes from home keeps its accounts, but not its minutes at the wheel
        rank.arrive(9);
        rank.pass(1);
        rank.pass(4);
        due.taxi(rank, 999, 0, 0, 0, 4, 1, 0, 42, 1, 1, 1);
        rank.goHome(999);
        due.taxi(rank, 999, 5, TaxiRank.NONE, 0, 4, 1, 0, 42, 1, 0, 1);
        due.is("come(999) from home", 2, rank.come(999));
        due.line(rank, 0, 500, 999);
        due.taxi(rank, 999, 0, 2, 0, 0, 1, 0, 42, 1, 0, 1);
    }

    private static void comeWithoutRoom() {
        TaxiRank rank = new TaxiRank();
        for (int i = 0; i < 12; i++) {
            due.is("come", i, rank.come(110 - 10 * i));
        }
        for (int i = 0; i < 12; i++) {
            due.is("plate", 10 * i, rank.plate(i));
        }
        due.is("the thirteenth", TaxiRank.FULL, rank.come(7));
        due.is("one out of range", TaxiRank.BAD_VALUE, rank.come(1000));
        due.is("one that is there", TaxiRank.NOT_POSSIBLE, rank.come(50));
        due.is("goHome(50)", 11, rank.goHome(50));
        due.is("one at home takes room, too", TaxiRank.FULL, rank.come(7));
        due.is("one from home", 11, rank.come(50));
        due.is("count(2)", 12, rank.count(2));
    }

    private static void goHome() {
        TaxiRank rank = Due.withTaxis(1, 2, 3);
        due.is("goHome(4)", TaxiRank.UNKNOWN, rank.goHome(4));
        due.is("goHome(-1)", TaxiRank.UNKNOWN, rank.goHome(-1));
        due.is("goHome(1000)", TaxiRank.UNKNOWN, rank.goHome(1000));
        due.is("goHome(2)", 2, rank.goHome(2));
        due.line(rank, 1, 3);
        due.is("goHome(2) again", TaxiRank.NONE, rank.goHome(2));
        due.is("NONE is not recorded", 4, rank.count(15));
        due.is("plates stay", 3, rank.count(2));
        rank.call(9, 8);
        due.is("on its way to a caller", TaxiRank.NOT_POSSIBLE, rank.goHome(1));
        rank.pass(2);
        due.is("with a passenger", TaxiRank.NOT_POSSIBLE, rank.goHome(1));
        rank.pass(2);
        due.is("on its way back", TaxiRank.NOT_POSSIBLE, rank.goHome(1));
        rank.pass(4);
        due.is("in the line", 1, rank.goHome(1));
        due.is("the last one", 0, rank.goHome(3));
        due.line(rank);
    }

    private static void goHomeFromRest() {
        TaxiRank rank = Due.withTaxis(1);
        rank.set(3, 30);
        rank.call(10, 0);
        rank.pass(40);
        due.taxi(rank, 1, 4, TaxiRank.NONE, 45, 40, 1, 1, 150, 0, 0, 0);
        due.is("goHome(1)", 0, rank.goHome(1));
        due.taxi(rank, 1, 5, TaxiRank.NONE, 0, 40);
        rank.pass(60);
        due.taxi(rank, 1, 5, TaxiRank.NONE, 0, 40);
        rank.come(1);
        due.taxi(rank, 1, 0, 0, 0, 0, 1, 1, 150, 0, 0, 1);
    }

    /** A taxi 1 that does that, and none beside it. */
    private static TaxiRank thatDoes(int doing) {
        TaxiRank rank = Due.withTaxis(1);
        rank.set(3, 30);
        switch (doing) {
            case 1:
                rank.call(5, 6);
                break;
            case 2:
                rank.call(10, 11);
                break;
            case 3:
                rank.call(10, 11);
                rank.pass(2);
                break;
            case 4:
                rank.call(10, 20);
                rank.pass(40);
                break;
            case 5:
                rank.goHome(1);
                break;
            default:
                break;
        }
        due.is("taxi(1, 0)", doing, rank.taxi(1, 0));
        return rank;
    }

    private static void whateverItDoes() {
        int none = TaxiRank.NONE;
        int not = TaxiRank.NOT_POSSIBLE;
        int[] comes = {not, not, not, not, not, 0};
        int[] goes = {0, not, not, not, 0, none};
        int[] called = {1, not, not, 1, not, not};
        int[] rides = {1, none, none, none, none, none};
        int[] reasons = {0, 1, 1, 1, 1, 1};
        int[] left = {0, 10, 2, 2, 45, 0};
        int[] inLineIn = {0, 20, 4, 2, 45, none};
        for (int doing = 0; doing <= 5; doing++) {
            String so = " as it does " + doing;
            due.is("come(1)" + so, comes[doing], thatDoes(doing).come(1));
            due.is("goHome(1)" + so, goes[doing], thatDoes(doing).goHome(1));
            due.is("call(12, 13)" + so, called[doing], thatDoes(doing).call(12, 13));
            due.is("ifCalled(12, 13, 0)" + so, called[doing], thatDoes(doing).ifCalled(12, 13, 0));
            due.is("rides(5)" + so, rides[doing], thatDoes(doing).rides(5));
            due.is("reason(1, 5)" + so, reasons[doing], thatDoes(doing).reason(1, 5));
            due.is("taxi(1, 1)" + so, doing == 0 ? 0 : none, thatDoes(doing).taxi(1, 1));
            due.is("taxi(1, 2)" + so, left[doing], thatDoes(doing).taxi(1, 2));
            due.is("inLineIn(1)" + so, inLineIn[doing], thatDoes(doing).inLineIn(1));
            due.is("count(3)" + so, doing == 0 ? 1 : 0, thatDoes(doing).count(3));
            TaxiRank rank = thatDoes(doing);
            int before = rank.count(9);
            rank.pass(1);
            due.is("a minute at the wheel" + so, doing >= 1 && doing <= 3 ? 1 : 0, rank.count(9) - before);
        }
        TaxiRank rank = thatDoes(4);
        rank.come(2);
        rank.come(3);
        due.is("from its rest, with two in the line", 2, rank.goHome(1));
        due.line(rank, 2, 3);
    }

    private static void set() {
        int[] lowest = {1, 1, 1, 30, 1};
        int[] highest = {9, 240, 20, 999, 240};
        int[] first = {2, 30, 7, 240, 45};
        TaxiRank rank = new TaxiRank();
        due.is("set(-1, 5)", TaxiRank.UNKNOWN, rank.set(-1, 5));
        due.is("set(5, 5)", TaxiRank.UNKNOWN, rank.set(5, 5));
        due.is("set(MAX, 0)", TaxiRank.UNKNOWN, rank.set(Integer.MAX_VALUE, 0));
        for (int which = 0; which < 5; which++) {
            due.is("too low", TaxiRank.BAD_VALUE, rank.set(which, lowest[which] - 1));
            due.is("too high", TaxiRank.BAD_VALUE, rank.set(which, highest[which] + 1));
            due.is("as it is", TaxiRank.NONE, rank.set(which, first[which]));
            due.is("lowest", first[which], rank.set(which, lowest[which]));
            due.is("count", lowest[which], rank.count(10 + which));
            due.is("highest", lowest[which], rank.set(which, highest[which]));
            due.is("count", highest[which], rank.count(10 + which));
            due.is("lowest stays so", TaxiRank.NONE, rank.set(which, highest[which]));
        }
        due.is("recorded", 4, rank.count(15));
        rank.undo();
        due.is("count(14) after undo", 1, rank.count(14));
    }

    private static void setLeavesWhatBegan() {
        TaxiRank rank = Due.withTaxis(5);
        rank.call(5, 7);
        due.is("way to the caller", 10, rank.taxi(5, 2));
        rank.set(0, 9);
        due.is("goes on as it began", 10, rank.taxi(5, 2));
        rank.pass(10);
        due.is("the next way takes longer", 18, rank.taxi(5, 2));
        rank.set(0, 1);
        due.is("paid", 54, rank.pass(18));
        due.is("the way back is quick", 3, rank.taxi(5, 2));
        rank.pass(3);

        // a short fare stays short, a rest stays as long as it was
        rank = Due.withTaxis(5, 6);
        rank.arrive(7);
        rank.pass(1);
        rank.set(2, 1);
        rank.pass(12);
        due.is("came back quickly", 1, rank.taxi(5, 7));
        rank.set(3, 30);
        rank.arrive(0);
        rank.pass(1);
        due.is("6 has fewer long fares, so has 5, and 5 is the first", 2, rank.taxi(5, 0));
        rank.pass(40);
        due.is("rests", 4, rank.taxi(5, 0));
        rank.set(4, 1);
        due.is("rests on", 45, rank.taxi(5, 2));
        rank.pass(45);
        due.line(rank, 6, 5);
    }
}
