/** Nothing there, and no room left: taxis, the line, passengers, the text, the history, the snapshot, the stop. */
public final class RoomLeftTest {
    private static final int UNKNOWN = TaxiRank.UNKNOWN;
    private static final int FULL = TaxiRank.FULL;
    private static final int NOT_POSSIBLE = TaxiRank.NOT_POSSIBLE;
    private static final int NONE = TaxiRank.NONE;
    private static final Due due = new Due();

    public static void main(String[] args) {
        noTaxis();
        twelveTaxis();
        oneAtHomeTakesRoom();
        oneThatIsUndoneTakesNone();
        emptyLine();
        fullLine();
        quickInAnEmptyLine();
        nobodyWaits();
        fifteenWait();
        emptyText();
        fullText();
        emptyHistory();
        fullHistory();
        historyOfEachAct();
        noSnapshot();
        snapshotOfANewObject();
        noStop();
        due.end();
    }

    private static void noTaxis() {
        TaxiRank rank = new TaxiRank();
        due.is("count(2)", 0, rank.count(2));
        due.is("plate(0)", NONE, rank.plate(0));
        due.is("goHome(1)", UNKNOWN, rank.goHome(1));
        due.is("taxi(1, 0)", UNKNOWN, rank.taxi(1, 0));
        due.is("a place of the row is no taxi", UNKNOWN, rank.taxi(0, 0));
        due.is("reason(1, 5)", UNKNOWN, rank.reason(1, 5));
        due.is("inLineIn(1)", UNKNOWN, rank.inLineIn(1));
        due.is("inLineIn(0)", UNKNOWN, rank.inLineIn(0));
        for (int what = 0; what < 3; what++) {
            due.is("shares(" + what + ")", NONE, rank.shares(what));
        }
        due.is("minutes pass all the same", 0, rank.pass(999));
        due.is("minutes at the wheel", 0, rank.count(9));
    }

    private static void twelveTaxis() {
        TaxiRank rank = new TaxiRank();
        for (int i = 0; i < 12; i++) {
            due.is("come", i, rank.come(500 + (i % 2 == 0 ? i : -i)));
        }
        due.is("the thirteenth", FULL, rank.come(1));
        due.is("the thirteenth, once more", FULL, rank.come(999));
        due.is("count(2)", 12, rank.count(2));
        int[] plates = {489, 491, 493, 495, 497, 499, 500, 502, 504, 506, 508, 510};
        for (int i = 0; i < plates.length; i++) {
            due.is("plate(" + i + ")", plates[i], rank.plate(i));
        }
        due.is("plate(12)", NONE, rank.plate(12));
        due.is("no such taxi", UNKNOWN, rank.taxi(1, 0));
    }

    private static void oneAtHomeTakesRoom() {
        TaxiRank rank = Due.withTaxis(1, 2, 3, 4, 5, 6, 7, 8, 9, 11, 12, 13);
        due.is("goHome(5)", 11, rank.goHome(5));
        due.is("count(2)", 12, rank.count(2));
        due.is("it has its plate still", 5, rank.plate(4));
        due.is("a new one", FULL, rank.come(14));
        due.is("the one at home comes", 11, rank.come(5));
        due.is("it is the last one", 5, rank.line(11));
        due.is("no two with the same plate", 12, rank.count(2));
    }

    private static void oneThatIsUndoneTakesNone() {
        TaxiRank rank = Due.withTaxis(1, 2, 3, 4, 5, 6, 7, 8, 9, 11, 12, 13);
        due.is("the thirteenth", FULL, rank.come(14));
        due.is("undo()", 3, rank.undo());
        due.is("13 has gone", UNKNOWN, rank.taxi(13, 0));
        due.is("the twelfth", 11, rank.come(14));
        due.is("13 is the thirteenth", FULL, rank.come(13));
    }

    private static void emptyLine() {
        TaxiRank rank = Due.withTaxis(1);
        due.is("goHome(1)", 0, rank.goHome(1));
        due.line(rank);
        due.is("count(2)", 1, rank.count(2));
        due.is("not in the line", 1, rank.reason(1, 5));
        due.is("rides(5)", NONE, rank.rides(5));
        due.is("call(5, 6)", NOT_POSSIBLE, rank.call(5, 6));
        due.is("ifCalled(5, 6, 2)", NOT_POSSIBLE, rank.ifCalled(5, 6, 2));
        rank.arrive(5);
        rank.pass(1);
        due.is("the passenger waits", 1, rank.count(4));
        due.is("the first in the line again", 0, rank.come(1));
        due.line(rank, 1);
    }

    private static void fullLine() {
        TaxiRank rank = Due.withTaxis(1, 2, 3, 4, 5, 6, 7, 8, 9, 11, 12, 13);
        due.is("line(11)", 13, rank.line(11));
        due.is("line(12)", NONE, rank.line(12));
        due.is("its place", 11, rank.taxi(13, 1));
        rank.arrive(11);
        rank.call(10, 11);
        rank.pass(1);
        due.is("two are off", 10, rank.count(3));
        rank.pass(3);
        due.line(rank, 3, 4, 5, 6, 7, 8, 9, 11, 12, 13, 1);
        rank.pass(1);
        due.line(rank, 2, 3, 4, 5, 6, 7, 8, 9, 11, 12, 13, 1);
    }

    private static void quickInAnEmptyLine() {
        TaxiRank rank = Due.withTaxis(1);
        rank.arrive(11);
        rank.pass(5);
        due.line(rank, 1);
        due.is("quick, though nobody is behind it", 1, rank.taxi(1, 8));
        due.is("quick comebacks", 1, rank.taxi(1, 7));
    }

    private static void nobodyWaits() {
        TaxiRank rank = Due.withTaxis(1);
        due.is("count(4)", 0, rank.count(4));
        due.is("waiting(0, 0)", NONE, rank.waiting(0, 0));
        due.is("waiting(0, 1)", NONE, rank.waiting(0, 1));
        due.is("ridesIn(0)", UNKNOWN, rank.ridesIn(0));
        due.is("nothing is paid", 0, rank.pass(100));
        due.line(rank, 1);
        due.is("nobody was taken", 0, rank.count(5));
        due.is("nobody left", 0, rank.count(6));
    }

    private static void fifteenWait() {
        TaxiRank rank = new TaxiRank();
        for (int i = 1; i <= 15; i++) {
            due.is("arrive", i, rank.arrive(i % 10));
        }
        due.is("the sixteenth", FULL, rank.arrive(20));
        due.is("count(4)", 15, rank.count(4));
        for (int i = 0; i < 15; i++) {
            due.is("in the order in which they came", (i + 1) % 10, rank.waiting(i, 0));
        }
        due.is("waiting(15, 0)", NONE, rank.waiting(15, 0));
        due.is("ridesIn(14)", NONE, rank.ridesIn(14));
        due.is("ridesIn(15)", UNKNOWN, rank.ridesIn(15));
        Due.retype(rank, "w1");
        due.is("the sixteenth by a text", NOT_POSSIBLE, rank.perform());
        due.is("the error", FULL, rank.stopped(1));
        rank.come(1);
        rank.pass(1);
        due.is("one rides", 14, rank.count(4));
        due.is("there is room for one", 15, rank.arrive(20));
        due.is("and for no more", FULL, rank.arrive(20));
        rank.pass(29);
        due.is("those from before have left", 1, rank.count(4));
        due.is("room again", 2, rank.arrive(3));
    }

    private static void emptyText() {
        TaxiRank rank = new TaxiRank();
        due.is("count(16)", 0, rank.count(16));
        due.is("it ends too early", -100, rank.perform());
        due.is("clearText()", 0, rank.clearText());
        due.is("type", 1, rank.type('w'));
        due.is("clearText()", 1, rank.clearText());
        due.is("empty again", -100, rank.perform());
        due.is("count(16)", 0, rank.count(16));
    }

    private static void fullText() {
        TaxiRank rank = new TaxiRank();
        for (int i = 1; i <= 60; i++) {
            due.is("type", i, rank.type(i % 3 == 1 ? '.' : i % 3 == 2 ? '1' : ';'));
        }
        due.is("the 61st", FULL, rank.type('.'));
        due.is("the 61st, once more", FULL, rank.type('1'));
        due.is("count(16)", 60, rank.count(16));
        due.is("twenty orders, and nothing behind the last ;", -160, rank.perform());
        due.is("clearText()", 60, rank.clearText());
        due.is("room again", 1, rank.type('.'));
        due.is("and again", 2, rank.type('7'));
        due.is("nothing of the old text is left", 1, rank.perform());
        due.is("count(0)", 7, rank.count(0));
    }

    private static void emptyHistory() {
        TaxiRank rank = new TaxiRank();
        due.is("count(15)", 0, rank.count(15));
        due.is("undo()", NONE, rank.undo());
        rank.come(1);
        due.is("the only one", 0, rank.undo());
        due.is("undo()", NONE, rank.undo());
        due.is("count(15)", 0, rank.count(15));
        due.is("as at first", 0, rank.count(2));
    }

    private static void fullHistory() {
        TaxiRank rank = new TaxiRank();
        int[] kept = {1, 2, 3, 4, 4, 4};
        for (int i = 0; i < kept.length; i++) {
            rank.pass(1 << i);
            due.is("count(15)", kept[i], rank.count(15));
        }
        int[] clocks = {31, 15, 7, 3};
        for (int i = 0; i < clocks.length; i++) {
            due.is("undo()", 3 - i, rank.undo());
            due.is("count(15)", 3 - i, rank.count(15));
            due.is("the clock", clocks[i], rank.count(0));
        }
        due.is("the two oldest ones were dropped", NONE, rank.undo());
        due.is("the clock", 3, rank.count(0));
        rank.pass(100);
        due.is("room again", 1, rank.count(15));
        due.is("undo()", 0, rank.undo());
        due.is("the clock", 3, rank.count(0));
    }

    /** Each act, as the fifth one, drops the oldest state. */
    private static void historyOfEachAct() {
        for (int which = 0; which < 8; which++) {
            TaxiRank rank = Due.withTaxis(1);
            rank.keep();
            Due.retype(rank, ".1;.1");
            for (int i = 0; i < 4; i++) {
                rank.pass(10);
            }
            due.is("four states", 4, rank.count(15));
            due.holds("act " + which, act(rank, which) >= 0);
            due.is("four states behind act " + which, 4, rank.count(15));
            int[] clocks = {40, 30, 20, 10};
            for (int i = 0; i < clocks.length; i++) {
                due.is("undo()", 3 - i, rank.undo());
                due.is("the clock", clocks[i], rank.count(0));
            }
            due.is("the oldest one was dropped by act " + which, NONE, rank.undo());
        }
    }

    private static int act(TaxiRank rank, int which) {
        switch (which) {
            case 0: return rank.come(2);
            case 1: return rank.goHome(1);
            case 2: return rank.set(0, 9);
            case 3: return rank.arrive(0);
            case 4: return rank.call(0, 20);
            case 5: return rank.pass(999);
            case 6: return rank.perform();
            default: return rank.restore();
        }
    }

    private static void noSnapshot() {
        TaxiRank rank = Due.withTaxis(1);
        rank.pass(5);
        due.is("restore()", NONE, rank.restore());
        due.is("the clock", 5, rank.count(0));
        rank.undo();
        due.is("the history is no snapshot", NONE, rank.restore());
        due.is("keep()", 0, rank.keep());
        due.is("restore()", 0, rank.restore());
        due.is("restore() again, as the snapshot stays", 0, rank.restore());
        due.is("each one is an act", 3, rank.count(15));
    }

    private static void snapshotOfANewObject() {
        TaxiRank rank = new TaxiRank();
        due.is("keep()", 0, rank.keep());
        due.is("keep() is no act", NONE, rank.undo());
        rank.come(1);
        rank.arrive(5);
        rank.pass(3);
        due.is("restore()", 0, rank.restore());
        due.is("no taxis", 0, rank.count(2));
        due.is("nobody in the line", NONE, rank.line(0));
        due.is("nobody was taken", 0, rank.count(5));
        due.is("undo()", 3, rank.undo());
        due.is("the clock", 3, rank.count(0));
        due.is("undo() empties no snapshot", 0, rank.restore());
        due.is("no taxis", NONE, rank.plate(0));
    }

    private static void noStop() {
        TaxiRank rank = new TaxiRank();
        due.is("stopped(0)", NONE, rank.stopped(0));
        due.is("stopped(1)", NONE, rank.stopped(1));
        rank.perform();
        due.is("a fault is no stop", NONE, rank.stopped(0));
        Due.retype(rank, "w1");
        rank.perform();
        due.is("what is carried out is no stop", NONE, rank.stopped(1));
        due.is("a call that is refused is none", NOT_POSSIBLE, rank.call(0, 1));
        due.is("stopped(0)", NONE, rank.stopped(0));
        Due.retype(rank, "c0>1");
        due.is("perform()", NOT_POSSIBLE, rank.perform());
        due.is("the first order is number 0", 0, rank.stopped(0));
        due.is("stopped(1)", NOT_POSSIBLE, rank.stopped(1));
    }
}
