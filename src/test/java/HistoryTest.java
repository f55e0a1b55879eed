/** Promises 12 to 14: undo, keep, restore. */
public final class HistoryTest {
    private static final Due due = new Due();

    public static void main(String[] args) {
        undo();
        undoBringsAllBack();
        undoEachAct();
        undoAccounts();
        taxisThatAreGone();
        oneStateAnAct();
        keepAndRestore();
        noPartOfAState();
        due.end();
    }

    private static void undo() {
        TaxiRank rank = new TaxiRank();
        due.is("undo()", TaxiRank.NONE, rank.undo());
        for (int i = 1; i <= 6; i++) {
            rank.come(i);
            due.is("count(15)", Math.min(i, 4), rank.count(15));
        }
        for (int i = 5; i >= 2; i--) {
            due.is("undo()", i - 2, rank.undo());
            due.is("count(2)", i, rank.count(2));
            due.is("count(15)", i - 2, rank.count(15));
        }
        due.is("the oldest ones were dropped", TaxiRank.NONE, rank.undo());
        due.line(rank, 1, 2);
        due.is("a plate that was undone may come", 2, rank.come(0));
        due.is("plate(0)", 0, rank.plate(0));
        due.is("plate(2)", 2, rank.plate(2));
    }

    private static void undoBringsAllBack() {
        TaxiRank rank = Due.withTaxis(5, 3, 4);
        rank.arrive(11);
        rank.pass(5);
        rank.arrive(1);
        rank.arrive(2);
        int[] counts = new int[15];
        for (int what = 0; what < counts.length; what++) {
            counts[what] = rank.count(what);
        }
        rank.pass(999);
        rank.set(0, 7);
        rank.goHome(3);
        rank.come(0);
        rank.undo();
        rank.undo();
        rank.undo();
        rank.undo();
        for (int what = 0; what < counts.length; what++) {
            due.is("count(" + what + ")", counts[what], rank.count(what));
        }
        due.line(rank, 5, 3, 4);
        due.taxi(rank, 5, 0, 0, 0, 4, 1, 0, 42, 1, 1, 1);
        due.taxi(rank, 3, 0, 1, 0, 0, 0, 0, 0, 0, 0, 1);
        due.is("waiting(0, 0)", 1, rank.waiting(0, 0));
        due.is("waiting(1, 1)", 0, rank.waiting(1, 1));
    }

    private static void undoEachAct() {
        TaxiRank rank = Due.withTaxis(1, 2, 3);
        rank.goHome(2);
        rank.undo();
        due.line(rank, 1, 2, 3);
        rank.set(3, 99);
        rank.undo();
        due.is("count(13)", 240, rank.count(13));
        due.line(rank, 1, 2, 3);
        rank.arrive(4);
        rank.undo();
        due.is("count(4)", 0, rank.count(4));
        rank.call(4, 5);
        rank.undo();
        due.is("count(7)", 0, rank.count(7));
        due.line(rank, 1, 2, 3);
        rank.pass(9);
        rank.undo();
        due.is("count(0)", 0, rank.count(0));
        rank.come(4);
        rank.undo();
        due.is("count(2)", 3, rank.count(2));
        rank.keep();
        rank.pass(8);
        rank.restore();
        rank.undo();
        due.is("count(0)", 8, rank.count(0));
        rank.call(4, 5);
        Due.retype(rank, "w1;.1");
        int[] dues = {1, 30, 2, 1, 2, 0, 2};
        for (int which = 0; which < dues.length; which++) {
            due.is("tried", 12 + 2 + 10, rank.inLineIn(1));
            due.is("act " + which, dues[which], act(rank, which));
            rank.undo();
            due.is("what was tried is not recorded", 8, rank.count(0));
            due.line(rank, 2, 3);
            due.is("count(4)", 0, rank.count(4));
        }
    }

    private static int act(TaxiRank rank, int which) {
        switch (which) {
            case 0: return rank.goHome(3);
            case 1: return rank.set(1, 3);
            case 2: return rank.come(4);
            case 3: return rank.arrive(4);
            case 4: return rank.call(10, 11);
            case 5: return rank.pass(1);
            default: return rank.perform();
        }
    }

    private static void undoAccounts() {
        TaxiRank rank = Due.withTaxis(1, 2);
        rank.set(1, 2);
        rank.arrive(0);
        rank.pass(1);
        rank.call(8, 20);
        rank.arrive(4);
        rank.arrive(5);
        rank.pass(100);
        due.is("left", 2, rank.count(6));
        due.line(rank, 1, 2);
        due.is("long", 1, rank.taxi(1, 5));
        rank.keep();
        rank.call(0, 20);
        rank.arrive(3);
        rank.arrive(3);
        rank.arrive(3);
        rank.pass(10);
        due.is("left", 4, rank.count(6));
        due.is("calls", 2, rank.count(7));
        due.is("long", 2, rank.taxi(1, 5));
        rank.restore();
        due.is("left", 2, rank.count(6));
        due.is("calls", 1, rank.count(7));
        due.is("long", 1, rank.taxi(1, 5));
        due.is("paid", 324, rank.count(8));
        due.is("taken", 2, rank.count(5));
        due.is("at the wheel", 88, rank.count(9));
        // a short fare of the rank is one still, though undo() brings it back
        rank.arrive(8);
        rank.pass(1);
        rank.pass(2);
        rank.pass(20);
        due.is("a call, behind which it would not come back quickly", 1, rank.call(10, 19));
        rank.undo();
        rank.undo();
        rank.pass(6);
        due.line(rank, 1, 2);
        due.is("came back quickly", 1, rank.taxi(1, 8));
    }

    /** Who comes behind a taxi of another state has nothing of its accounts. */
    private static void taxisThatAreGone() {
        TaxiRank rank = new TaxiRank();
        rank.keep();
        rank.come(5);
        rank.arrive(11);
        rank.pass(5);
        rank.call(0, 20);
        due.taxi(rank, 5, 1, TaxiRank.NONE, 20, 4, 2, 1, 42, 1, 0, 1);
        due.is("restore()", 0, rank.restore());
        due.is("no such taxi", TaxiRank.UNKNOWN, rank.taxi(5, 0));
        due.is("the first one", 0, rank.come(6));
        due.taxi(rank, 6, 0, 0, 0, 0, 0, 0, 0, 0, 0, 1);
        due.is("and the next", 1, rank.come(5));
        due.taxi(rank, 5, 0, 1, 0, 0, 0, 0, 0, 0, 0, 1);
        due.is("shares(0)", 0, rank.shares(0));
    }

    private static void oneStateAnAct() {
        TaxiRank rank = new TaxiRank();
        rank.come(1);
        rank.undo();
        due.is("come", 0, rank.count(15));
        rank.come(1000);
        rank.goHome(1);
        rank.set(0, 2);
        rank.set(0, 0);
        rank.arrive(10);
        rank.call(1, 2);
        rank.pass(0);
        rank.perform();
        rank.restore();
        rank.keep();
        rank.type('w');
        rank.clearText();
        due.is("no errors, no NONE, no keep()", 0, rank.count(15));
        rank.come(1);
        due.is("come", 1, rank.count(15));
        rank.goHome(1);
        due.is("goHome", 2, rank.count(15));
        rank.undo();
        rank.set(0, 3);
        due.is("set", 2, rank.count(15));
        rank.undo();
        rank.arrive(1);
        due.is("arrive", 2, rank.count(15));
        rank.undo();
        rank.call(1, 2);
        due.is("call", 2, rank.count(15));
        rank.undo();
        rank.pass(1);
        due.is("pass", 2, rank.count(15));
        rank.undo();
        Due.retype(rank, ".1;.2");
        rank.perform();
        due.is("perform", 2, rank.count(15));
        rank.undo();
        rank.restore();
        due.is("restore", 2, rank.count(15));
        due.is("all told changes nothing", 2, askAll(rank));
    }

    private static int askAll(TaxiRank rank) {
        for (int i = -1; i < 22; i++) {
            rank.taxi(1, i);
            rank.line(i);
            rank.plate(i);
            rank.waiting(i, 0);
            rank.rides(i);
            rank.ifCalled(i, 3, 0);
            rank.reason(1, i);
            rank.ridesIn(i);
            rank.inLineIn(i);
            rank.shares(i);
            rank.count(i);
        }
        return rank.count(15);
    }

    private static void keepAndRestore() {
        TaxiRank rank = Due.withTaxis(1);
        due.is("no snapshot", TaxiRank.NONE, rank.restore());
        rank.pass(7);
        due.is("keep()", 7, rank.keep());
        rank.pass(100);
        rank.set(1, 9);
        rank.come(2);
        due.is("restore()", 7, rank.restore());
        due.is("it is an act", 4, rank.count(15));
        due.is("count(11)", 30, rank.count(11));
        due.line(rank, 1);
        rank.come(3);
        due.is("the snapshot stays", 7, rank.restore());
        due.line(rank, 1);
        due.is("undo()", 3, rank.undo());
        due.line(rank, 1, 3);
        due.is("undo()", 2, rank.undo());
        due.is("undo()", 1, rank.undo());
        due.is("count(0)", 107, rank.count(0));
        due.line(rank, 1, 2);
        due.is("in place of the one that was", 107, rank.keep());
        rank.pass(1);
        due.is("restore()", 107, rank.restore());
        due.line(rank, 1, 2);
        // undo does not touch the snapshot
        rank.undo();
        due.is("count(0)", 108, rank.count(0));
        due.is("restore()", 107, rank.restore());
    }

    /** Text, history, snapshot and stop stay as they are, whatever state is restored. */
    private static void noPartOfAState() {
        TaxiRank rank = Due.withTaxis(1);
        due.is("a snapshot without text and stop", 0, rank.keep());
        rank.pass(1);
        Due.retype(rank, ".1;c0>1;c0>1");
        rank.perform();
        rank.pass(10);
        due.is("three states", 3, rank.count(15));
        due.is("another snapshot", 11, rank.keep());
        due.is("it is no state of the history", 3, rank.count(15));
        textAndStop(rank, 12, 2);
        due.is("back to it", 11, rank.restore());
        rank.undo();
        rank.undo();
        rank.undo();
        due.is("a snapshot as at first", 0, rank.keep());
        rank.pass(1);
        rank.pass(10);
        due.is("three states", 3, rank.count(15));
        due.is("restore()", 0, rank.restore());
        due.is("one more state", 4, rank.count(15));
        textAndStop(rank, 12, 2);
        due.is("undo()", 3, rank.undo());
        due.is("the clock", 11, rank.count(0));
        textAndStop(rank, 12, 2);
        Due.retype(rank, "c0>1;c0>1");
        rank.perform();
        due.is("undo()", 2, rank.undo());
        textAndStop(rank, 9, 1);
        rank.clearText();
        due.is("undo()", 1, rank.undo());
        textAndStop(rank, 0, 1);
        due.is("the snapshot is there", 0, rank.restore());
        textAndStop(rank, 0, 1);
        due.is("the history, too", 2, rank.count(15));
    }

    private static void textAndStop(TaxiRank rank, int length, int order) {
        due.is("the text", length, rank.count(16));
        due.is("the order", order, rank.stopped(0));
        due.is("the error", TaxiRank.NOT_POSSIBLE, rank.stopped(1));
    }
}
