import java.util.ArrayList;
import java.util.List;
import java.util.function.Consumer;
import java.util.function.ToIntFunction;

/**
 * A call that returns an error or NONE changes nothing but the latest stop of perform(): an object that refused it
 * answers, at once and later, as one that was never asked.
 */
public final class RefusedTest {
    private static final int UNKNOWN = TaxiRank.UNKNOWN;
    private static final int BAD_VALUE = TaxiRank.BAD_VALUE;
    private static final int FULL = TaxiRank.FULL;
    private static final int NOT_POSSIBLE = TaxiRank.NOT_POSSIBLE;
    private static final int NONE = TaxiRank.NONE;
    private static final int[] PLATES = {1, 2, 3, 4, 5, 6, 7, 8, 10, 11, 12, 13, 14, 999};
    private static final Due due = new Due();

    private record Refused(String call, int want, ToIntFunction<TaxiRank> asked) { }

    private record Later(String what, Consumer<TaxiRank> done) { }

    private static final List<Later> LATER = List.of(
        new Later("at once", rank -> { }),
        new Later("a minute later", rank -> rank.pass(1)),
        new Later("much later", rank -> rank.pass(200)),
        new Later("after undo()", TaxiRank::undo),
        new Later("after four times undo()", rank -> {
            for (int i = 0; i < 4; i++) {
                rank.undo();
            }
        }),
        new Later("after restore()", TaxiRank::restore),
        new Later("after restore() and undo()", rank -> {
            rank.restore();
            rank.undo();
        }),
        new Later("after perform()", TaxiRank::perform),
        new Later("after the text goes on", rank -> {
            rank.type('5');
            rank.perform();
        }),
        new Later("after more taxis and passengers", rank -> {
            rank.come(12);
            rank.come(13);
            rank.arrive(0);
            rank.arrive(9);
            rank.pass(30);
        }));

    public static void main(String[] args) {
        inANewObject();
        inABusyTown();
        inAFullTown();
        atTheEndOfTheClock();
        questionsChangeNothing();
        onlyTheLatestStop();
        due.end();
    }

    private static void check(String where, Consumer<TaxiRank> made, List<Refused> refused) {
        for (Refused one : refused) {
            for (Later later : LATER) {
                TaxiRank asked = new TaxiRank();
                TaxiRank never = new TaxiRank();
                made.accept(asked);
                made.accept(never);
                due.is(one.call + " " + where, one.want, one.asked.applyAsInt(asked));
                later.done.accept(asked);
                later.done.accept(never);
                due.holds(one.call + " " + where + ", " + later.what, answers(asked).equals(answers(never)));
            }
        }
    }

    /** What is told, but for the latest stop. */
    private static List<Integer> answers(TaxiRank rank) {
        List<Integer> all = sums(rank);
        for (int plate : PLATES) {
            for (int what = 0; what <= 9; what++) {
                all.add(rank.taxi(plate, what));
            }
            all.add(rank.inLineIn(plate));
        }
        for (int i = 0; i <= 12; i++) {
            all.add(rank.line(i));
            all.add(rank.plate(i));
        }
        for (int i = 0; i <= 15; i++) {
            all.add(rank.waiting(i, 0));
            all.add(rank.waiting(i, 1));
            all.add(rank.ridesIn(i));
        }
        for (int place = 0; place <= 20; place += 4) {
            all.add(rank.rides(place));
            all.add(rank.ifCalled(place, 5, 0));
            all.add(rank.ifCalled(place, 5, 1));
            all.add(rank.reason(5, place));
        }
        for (int what = 0; what <= 2; what++) {
            all.add(rank.shares(what));
        }
        return all;
    }

    /** So few calls that there is room for them behind all questions, within the 512 calls of an object. */
    private static List<Integer> sums(TaxiRank rank) {
        List<Integer> all = new ArrayList<>();
        for (int what = 0; what <= 16; what++) {
            all.add(rank.count(what));
        }
        return all;
    }

    private static void inANewObject() {
        check("in a new object", rank -> { }, List.of(
            new Refused("come(1000)", BAD_VALUE, rank -> rank.come(1000)),
            new Refused("goHome(1)", UNKNOWN, rank -> rank.goHome(1)),
            new Refused("set(5, 1)", UNKNOWN, rank -> rank.set(5, 1)),
            new Refused("set(0, 0)", BAD_VALUE, rank -> rank.set(0, 0)),
            new Refused("set(0, 2)", NONE, rank -> rank.set(0, 2)),
            new Refused("arrive(21)", UNKNOWN, rank -> rank.arrive(21)),
            new Refused("arrive(10)", BAD_VALUE, rank -> rank.arrive(10)),
            new Refused("call(0, 21)", UNKNOWN, rank -> rank.call(0, 21)),
            new Refused("call(3, 3)", BAD_VALUE, rank -> rank.call(3, 3)),
            new Refused("call(3, 4)", NOT_POSSIBLE, rank -> rank.call(3, 4)),
            new Refused("pass(0)", BAD_VALUE, rank -> rank.pass(0)),
            new Refused("pass(1000)", BAD_VALUE, rank -> rank.pass(1000)),
            new Refused("perform()", -100, TaxiRank::perform),
            new Refused("stopped(0)", NONE, rank -> rank.stopped(0)),
            new Refused("undo()", NONE, TaxiRank::undo),
            new Refused("restore()", NONE, TaxiRank::restore)));
    }

    /**
     * Taxis that do all there is: 1 rests, 2 is on its way back, 3 with a passenger, 4 on its way to a caller, 5 and
     * 10 in the line, 6 at home. Three wait; the history is full, there are a snapshot, a text, and a stop.
     */
    private static void makeBusy(TaxiRank rank) {
        for (int plate : new int[] {1, 2, 3, 4, 6, 10}) {
            rank.come(plate);
        }
        rank.goHome(6);
        rank.set(3, 30);
        rank.keep();
        rank.call(10, 2);
        rank.pass(32);
        rank.arrive(13);
        rank.pass(7);
        rank.call(10, 20);
        rank.call(0, 5);
        rank.arrive(4);
        rank.arrive(19);
        rank.pass(1);
        rank.arrive(11);
        rank.come(5);
        Due.retype(rank, "w1;c10>11;c10>11;c10>11");
        rank.perform();
        Due.retype(rank, "w3;.1");
    }

    private static void inABusyTown() {
        TaxiRank busy = new TaxiRank();
        makeBusy(busy);
        int[] plates = {5, 4, 3, 2, 1, 6};
        for (int doing = 0; doing < plates.length; doing++) {
            due.is("taxi(" + plates[doing] + ", 0)", doing, busy.taxi(plates[doing], 0));
        }
        int[] wants = {40, 0, 7, 2, 3};
        for (int what = 0; what < wants.length; what++) {
            due.is("count(" + what + ")", wants[what], busy.count(what));
        }
        due.is("the history is full", 4, busy.count(15));
        due.is("the text", 5, busy.count(16));
        due.is("the stop", 3, busy.stopped(0));
        check("in a busy town", RefusedTest::makeBusy, List.of(
            new Refused("come(-1)", BAD_VALUE, rank -> rank.come(-1)),
            new Refused("come(1)", NOT_POSSIBLE, rank -> rank.come(1)),
            new Refused("come(2)", NOT_POSSIBLE, rank -> rank.come(2)),
            new Refused("come(3)", NOT_POSSIBLE, rank -> rank.come(3)),
            new Refused("come(4)", NOT_POSSIBLE, rank -> rank.come(4)),
            new Refused("come(5)", NOT_POSSIBLE, rank -> rank.come(5)),
            new Refused("goHome(9)", UNKNOWN, rank -> rank.goHome(9)),
            new Refused("goHome(2)", NOT_POSSIBLE, rank -> rank.goHome(2)),
            new Refused("goHome(3)", NOT_POSSIBLE, rank -> rank.goHome(3)),
            new Refused("goHome(4)", NOT_POSSIBLE, rank -> rank.goHome(4)),
            new Refused("goHome(6)", NONE, rank -> rank.goHome(6)),
            new Refused("set(-1, 30)", UNKNOWN, rank -> rank.set(-1, 30)),
            new Refused("set(3, 29)", BAD_VALUE, rank -> rank.set(3, 29)),
            new Refused("set(3, 1000)", BAD_VALUE, rank -> rank.set(3, 1000)),
            new Refused("set(3, 30)", NONE, rank -> rank.set(3, 30)),
            new Refused("arrive(-1)", UNKNOWN, rank -> rank.arrive(-1)),
            new Refused("arrive(10)", BAD_VALUE, rank -> rank.arrive(10)),
            new Refused("call(21, 0)", UNKNOWN, rank -> rank.call(21, 0)),
            new Refused("call(10, 10)", BAD_VALUE, rank -> rank.call(10, 10)),
            new Refused("pass(-1)", BAD_VALUE, rank -> rank.pass(-1)),
            new Refused("pass(1000)", BAD_VALUE, rank -> rank.pass(1000)),
            new Refused("stopped(2)", BAD_VALUE, rank -> rank.stopped(2))));
        checkTexts();
    }

    /** Texts that are refused; the one that was there is typed again. */
    private static void checkTexts() {
        List<Refused> refused = new ArrayList<>();
        String[] texts = {"", "w3;.1;", "w3;.1;x", "c10>10", "w3;w10", "c5>11;.50;c5>11;.0"};
        int[] faults = {0, 6, 6, 6, 6, 17};
        for (int i = 0; i < texts.length; i++) {
            refused.add(performed(texts[i], -100 - faults[i]));
        }
        // what the orders ahead of the one that stops did is taken back
        refused.add(performed("w3;.999;c0>20;c0>20;c0>20;c0>20;c0>20;c0>20", NOT_POSSIBLE));
        refused.add(performed("w1;w1;w1;w1;w1;w1;w1;w1;w1;w1;w1;w1;w1", NOT_POSSIBLE));
        refused.add(performed("c10>11;.5;c11>12;c11>12;c11>12;c11>12", NOT_POSSIBLE));
        refused.add(performed("c10>11;c10>11;c10>11", NOT_POSSIBLE));
        check("in a busy town", RefusedTest::makeBusy, refused);
    }

    private static Refused performed(String text, int want) {
        return new Refused("perform() of " + text, want, rank -> {
            Due.retype(rank, text);
            int answer = rank.perform();
            Due.retype(rank, "w3;.1");
            return answer;
        });
    }

    private static void makeFull(TaxiRank rank) {
        for (int plate = 14; plate > 2; plate--) {
            rank.come(plate);
        }
        for (int i = 0; i < 15; i++) {
            rank.arrive((i + 11) % 21);
        }
        rank.keep();
        for (int i = 0; i < 60; i++) {
            rank.type("c0>1;w5;".charAt(i % 8));
        }
    }

    private static void inAFullTown() {
        check("in a full town", RefusedTest::makeFull, List.of(
            new Refused("come(2)", FULL, rank -> rank.come(2)),
            new Refused("come(3)", NOT_POSSIBLE, rank -> rank.come(3)),
            new Refused("come(1000)", BAD_VALUE, rank -> rank.come(1000)),
            new Refused("arrive(0)", FULL, rank -> rank.arrive(0)),
            new Refused("arrive(10)", BAD_VALUE, rank -> rank.arrive(10)),
            new Refused("type('w')", FULL, rank -> rank.type('w')),
            new Refused("perform()", NOT_POSSIBLE, TaxiRank::perform)));
    }

    private static void makeLate(TaxiRank rank) {
        Due.passTo(rank, 99900);
        rank.come(1);
        rank.come(2);
        rank.come(9);
        rank.arrive(20);
        rank.keep();
        rank.pass(99);
        rank.arrive(3);
        Due.retype(rank, "w1;.1");
    }

    private static void atTheEndOfTheClock() {
        check("at the end of the clock", RefusedTest::makeLate, List.of(
            new Refused("pass(1)", FULL, rank -> rank.pass(1)),
            new Refused("pass(999)", FULL, rank -> rank.pass(999)),
            new Refused("pass(0)", BAD_VALUE, rank -> rank.pass(0)),
            new Refused("perform()", NOT_POSSIBLE, TaxiRank::perform)));
    }

    /** Neither those that are answered, nor those that are refused. */
    private static void questionsChangeNothing() {
        for (Later later : LATER) {
            TaxiRank asked = new TaxiRank();
            TaxiRank never = new TaxiRank();
            makeBusy(asked);
            makeBusy(never);
            answers(asked);
            for (int odd : new int[] {Integer.MIN_VALUE, -1, 21, Integer.MAX_VALUE}) {
                askOddly(asked, odd);
            }
            due.is("the stop", 3, asked.stopped(0));
            later.done.accept(asked);
            later.done.accept(never);
            due.holds("all that is asked, " + later.what, sums(asked).equals(sums(never)));
        }
    }

    private static void askOddly(TaxiRank rank, int odd) {
        rank.taxi(odd, 0);
        rank.taxi(1, odd);
        rank.line(odd);
        rank.plate(odd);
        rank.waiting(odd, 0);
        rank.waiting(0, odd);
        rank.rides(odd);
        rank.ifCalled(odd, 0, 0);
        rank.ifCalled(0, odd, 0);
        rank.ifCalled(0, 1, odd);
        rank.reason(odd, 0);
        rank.reason(1, odd);
        rank.ridesIn(odd);
        rank.inLineIn(odd);
        rank.shares(odd);
        rank.count(odd);
        rank.stopped(odd);
    }

    private static void onlyTheLatestStop() {
        TaxiRank rank = Due.withTaxis(1);
        Due.retype(rank, "w1;c0>1;c0>1");
        due.is("perform()", NOT_POSSIBLE, rank.perform());
        stop(rank, 2, NOT_POSSIBLE);
        // neither a fault, nor what is carried out, nor any other refused call is a stop
        Due.retype(rank, "w1;c0>0");
        due.is("perform()", -107, rank.perform());
        stop(rank, 2, NOT_POSSIBLE);
        due.is("arrive(10)", BAD_VALUE, rank.arrive(10));
        due.is("call(3, 3)", BAD_VALUE, rank.call(3, 3));
        due.is("pass(0)", BAD_VALUE, rank.pass(0));
        Due.retype(rank, "w1;w1");
        due.is("perform()", 2, rank.perform());
        stop(rank, 2, NOT_POSSIBLE);
        // the latest one takes the place of the one before
        for (int i = 0; i < 6; i++) {
            due.is("perform()", 2, rank.perform());
        }
        due.is("perform()", NOT_POSSIBLE, rank.perform());
        stop(rank, 1, FULL);
        // it is no part of a state
        rank.undo();
        stop(rank, 1, FULL);
        rank.keep();
        rank.restore();
        rank.clearText();
        stop(rank, 1, FULL);
        Due.retype(rank, "c0>1;c0>1");
        due.is("perform()", NOT_POSSIBLE, rank.perform());
        stop(rank, 1, NOT_POSSIBLE);
    }

    private static void stop(TaxiRank rank, int order, int error) {
        due.is("stopped(0)", order, rank.stopped(0));
        due.is("stopped(1)", error, rank.stopped(1));
    }
}
