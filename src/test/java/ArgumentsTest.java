import java.util.function.IntUnaryOperator;

/** Each argument: the smallest and the largest value that is allowed, the first ones outside, the order of errors. */
public final class ArgumentsTest {
    private static final int UNKNOWN = TaxiRank.UNKNOWN;
    private static final int BAD_VALUE = TaxiRank.BAD_VALUE;
    private static final int FULL = TaxiRank.FULL;
    private static final int NOT_POSSIBLE = TaxiRank.NOT_POSSIBLE;
    private static final int NONE = TaxiRank.NONE;
    private static final int MIN = Integer.MIN_VALUE;
    private static final int MAX = Integer.MAX_VALUE;
    private static final int[] NO_PLACES = {MIN, -1, 21, MAX};
    private static final Due due = new Due();

    public static void main(String[] args) {
        plates();
        set(0, 1, 9, 2);
        set(1, 1, 240, 30);
        set(2, 1, 20, 7);
        set(3, 30, 999, 240);
        set(4, 1, 240, 45);
        settingsThatAreNot();
        placesOfPassengers();
        placesOfCalls();
        placesOfQuestions();
        minutes();
        characters();
        whatIsAsked();
        ranks();
        ordersOfErrors();
        ordersOfErrorsWithoutRoom();
        due.end();
    }

    /** Each of these values is answered in the same way. */
    private static void each(String call, int want, IntUnaryOperator asked, int... values) {
        for (int value : values) {
            due.is(call + " of " + value, want, asked.applyAsInt(value));
        }
    }

    private static void plates() {
        TaxiRank rank = new TaxiRank();
        each("come", BAD_VALUE, rank::come, MIN, -1, 1000, MAX);
        due.is("the lowest plate", 0, rank.come(0));
        due.is("the highest plate", 1, rank.come(999));
        due.is("plate(0)", 0, rank.plate(0));
        due.is("plate(1)", 999, rank.plate(1));
        each("goHome", UNKNOWN, rank::goHome, MIN, -1, 1, 998, 1000, MAX);
        each("taxi", UNKNOWN, plate -> rank.taxi(plate, 0), MIN, -1, 1, 998, 1000, MAX);
        each("reason", UNKNOWN, plate -> rank.reason(plate, 5), MIN, -1, 1, 998, 1000, MAX);
        each("inLineIn", UNKNOWN, rank::inLineIn, MIN, -1, 1, 998, 1000, MAX);
        each("taxi", 0, plate -> rank.taxi(plate, 0), 0, 999);
        each("inLineIn", 0, rank::inLineIn, 0, 999);
        due.is("the lowest plate stays at home", 2, rank.reason(0, 5));
        due.is("the highest plate would", 0, rank.reason(999, 5));
        due.is("the highest plate goes", 1, rank.goHome(999));
        due.is("the lowest plate goes", 0, rank.goHome(0));
    }

    private static void set(int which, int lowest, int highest, int first) {
        TaxiRank rank = new TaxiRank();
        IntUnaryOperator set = value -> rank.set(which, value);
        each("set " + which, BAD_VALUE, set, MIN, -1, 0, lowest - 1, highest + 1, 1000, MAX);
        due.is("at first", first, rank.count(10 + which));
        due.is("as at first", NONE, rank.set(which, first));
        due.is("set " + which + " to the lowest", first, rank.set(which, lowest));
        due.is("it is so", lowest, rank.count(10 + which));
        due.is("as it is", NONE, rank.set(which, lowest));
        each("set " + which, BAD_VALUE, set, lowest - 1, highest + 1);
        due.is("set " + which + " to the highest", lowest, rank.set(which, highest));
        due.is("it is so", highest, rank.count(10 + which));
        due.is("as it is", NONE, rank.set(which, highest));
        each("set " + which, BAD_VALUE, set, lowest - 1, highest + 1);
        due.is("recorded", 2, rank.count(15));
        int[] others = {2, 30, 7, 240, 45};
        for (int other = 0; other < others.length; other++) {
            due.is("setting " + other, other == which ? highest : others[other], rank.count(10 + other));
        }
    }

    private static void settingsThatAreNot() {
        TaxiRank rank = new TaxiRank();
        each("set", UNKNOWN, which -> rank.set(which, 30), MIN, -1, 5, MAX);
    }

    private static void placesOfPassengers() {
        TaxiRank rank = new TaxiRank();
        each("arrive", UNKNOWN, rank::arrive, NO_PLACES);
        due.is("arrive(10)", BAD_VALUE, rank.arrive(10));
        due.is("the lowest place", 1, rank.arrive(0));
        due.is("the highest place", 2, rank.arrive(20));
        due.is("next to the rank", 3, rank.arrive(9));
        due.is("next to the rank", 4, rank.arrive(11));
        int[] wants = {0, 20, 9, 11};
        for (int i = 0; i < wants.length; i++) {
            due.is("waiting(" + i + ", 0)", wants[i], rank.waiting(i, 0));
        }
    }

    private static void placesOfCalls() {
        TaxiRank rank = Due.withTaxis(1, 2, 3, 4, 5, 6);
        each("call from", UNKNOWN, from -> rank.call(from, 5), NO_PLACES);
        each("call to", UNKNOWN, to -> rank.call(5, to), NO_PLACES);
        each("call to the same", BAD_VALUE, both -> rank.call(both, both), 0, 9, 10, 11, 20);
        due.is("from the lowest place to the highest", 1, rank.call(0, 20));
        due.is("from the highest place to the lowest", 2, rank.call(20, 0));
        due.is("from the rank", 3, rank.call(10, 11));
        due.is("to the rank", 4, rank.call(11, 10));
        due.is("to the place next to it, below", 5, rank.call(1, 0));
        due.is("to the place next to it, above", 6, rank.call(19, 20));
    }

    private static void placesOfQuestions() {
        TaxiRank rank = Due.withTaxis(1);
        each("rides", UNKNOWN, rank::rides, NO_PLACES);
        due.is("rides(10)", BAD_VALUE, rank.rides(10));
        each("rides", 1, rank::rides, 0, 9, 11, 20);
        each("reason", UNKNOWN, to -> rank.reason(1, to), NO_PLACES);
        due.is("reason(1, 10)", BAD_VALUE, rank.reason(1, 10));
        each("reason", 0, to -> rank.reason(1, to), 0, 9, 11, 20);
        each("ifCalled from", UNKNOWN, from -> rank.ifCalled(from, 5, 0), NO_PLACES);
        each("ifCalled to", UNKNOWN, to -> rank.ifCalled(5, to, 0), NO_PLACES);
        each("ifCalled to the same", BAD_VALUE, both -> rank.ifCalled(both, both, 0), 0, 9, 10, 11, 20);
        each("ifCalled from", 1, from -> rank.ifCalled(from, 5, 0), 0, 4, 6, 10, 20);
        each("ifCalled to", 1, to -> rank.ifCalled(5, to, 0), 0, 4, 6, 10, 20);
        due.is("the fare of the longest way", 270, rank.ifCalled(0, 20, 2));
        due.is("the fare of the longest way back", 270, rank.ifCalled(20, 0, 2));
        due.is("the fare of the shortest way", 42, rank.ifCalled(0, 1, 2));
        due.is("the fare of the shortest way back", 42, rank.ifCalled(20, 19, 2));
    }

    private static void minutes() {
        TaxiRank rank = new TaxiRank();
        each("pass", BAD_VALUE, rank::pass, MIN, -1, 0, 1000, MAX);
        due.is("no minute has passed", 0, rank.count(0));
        due.is("the fewest minutes", 0, rank.pass(1));
        due.is("count(0)", 1, rank.count(0));
        due.is("the most minutes", 0, rank.pass(999));
        due.is("count(0)", 1000, rank.count(0));
    }

    private static void characters() {
        TaxiRank rank = new TaxiRank();
        int length = 0;
        for (char any : new char[] {0, 1, ' ', '0', 'w', 127, 128, 255, 256, 0xd800, 0xffff}) {
            length++;
            due.is("type character " + (int) any, length, rank.type(any));
        }
        due.is("count(16)", length, rank.count(16));
    }

    private static void whatIsAsked() {
        TaxiRank rank = Due.withTaxis(1);
        rank.arrive(5);
        Due.retype(rank, "c0>1;c0>1");
        rank.perform();
        each("stopped", BAD_VALUE, rank::stopped, MIN, -1, 2, MAX);
        due.is("stopped(0)", 1, rank.stopped(0));
        due.is("stopped(1)", NOT_POSSIBLE, rank.stopped(1));
        each("taxi", BAD_VALUE, what -> rank.taxi(1, what), MIN, -1, 10, MAX);
        due.is("taxi(1, 0)", 0, rank.taxi(1, 0));
        due.is("taxi(1, 9)", 1, rank.taxi(1, 9));
        each("waiting", BAD_VALUE, what -> rank.waiting(0, what), MIN, -1, 2, MAX);
        due.is("waiting(0, 0)", 5, rank.waiting(0, 0));
        due.is("waiting(0, 1)", 0, rank.waiting(0, 1));
        each("ifCalled", BAD_VALUE, what -> rank.ifCalled(0, 1, what), MIN, -1, 3, MAX);
        due.is("ifCalled(0, 1, 0)", 1, rank.ifCalled(0, 1, 0));
        due.is("ifCalled(0, 1, 2)", 42, rank.ifCalled(0, 1, 2));
        each("shares", BAD_VALUE, rank::shares, MIN, -1, 3, MAX);
        due.is("shares(0)", 0, rank.shares(0));
        due.is("shares(2)", 1, rank.shares(2));
        each("count", BAD_VALUE, rank::count, MIN, -1, 17, MAX);
        due.is("count(0)", 0, rank.count(0));
        due.is("count(16)", 9, rank.count(16));
    }

    private static void ranks() {
        TaxiRank rank = Due.withTaxis(7, 3);
        rank.arrive(5);
        rank.arrive(6);
        each("line", BAD_VALUE, rank::line, MIN, -1);
        due.is("line(0)", 7, rank.line(0));
        due.is("line(1)", 3, rank.line(1));
        each("line", NONE, rank::line, 2, 12, MAX);
        each("plate", BAD_VALUE, rank::plate, MIN, -1);
        due.is("plate(0)", 3, rank.plate(0));
        due.is("plate(1)", 7, rank.plate(1));
        each("plate", NONE, rank::plate, 2, 12, MAX);
        each("waiting", BAD_VALUE, at -> rank.waiting(at, 0), MIN, -1);
        due.is("waiting(0, 0)", 5, rank.waiting(0, 0));
        due.is("waiting(1, 0)", 6, rank.waiting(1, 0));
        each("waiting", NONE, at -> rank.waiting(at, 0), 2, 15, MAX);
        each("ridesIn", UNKNOWN, rank::ridesIn, MIN, -1, 2, 15, MAX);
        due.is("ridesIn(0)", 1, rank.ridesIn(0));
        due.is("ridesIn(1)", 1, rank.ridesIn(1));
    }

    /** Two errors apply; the one that the line of the answer names first is told. */
    private static void ordersOfErrors() {
        TaxiRank rank = new TaxiRank();
        each("set, no setting and no value", UNKNOWN, which -> rank.set(which, 0), -1, 5);
        each("call, no place and the same", UNKNOWN, both -> rank.call(both, both), NO_PLACES);
        each("call, no place and no taxi", UNKNOWN, to -> rank.call(0, to), NO_PLACES);
        due.is("call, the same and no taxi", BAD_VALUE, rank.call(5, 5));
        each("stopped, no such thing and none stopped", BAD_VALUE, rank::stopped, -1, 2);
        each("taxi, no taxi and no such thing", UNKNOWN, what -> rank.taxi(1, what), -1, 10);
        due.is("line, negative and nobody there", BAD_VALUE, rank.line(-1));
        due.is("plate, negative and nobody there", BAD_VALUE, rank.plate(-1));
        due.is("waiting, negative and nobody there", BAD_VALUE, rank.waiting(-1, 0));
        each("waiting, no such thing and nobody there", BAD_VALUE, what -> rank.waiting(0, what), -1, 2);
        each("rides, no place and no taxi", UNKNOWN, rank::rides, NO_PLACES);
        due.is("rides, the rank and no taxi", BAD_VALUE, rank.rides(10));
        each("ifCalled, no place and the same", UNKNOWN, both -> rank.ifCalled(both, both, 0), NO_PLACES);
        each("ifCalled, no place and no such thing", UNKNOWN, what -> rank.ifCalled(0, 21, what), -1, 3);
        due.is("ifCalled, the same and no taxi", BAD_VALUE, rank.ifCalled(5, 5, 0));
        each("ifCalled, no such thing and no taxi", BAD_VALUE, what -> rank.ifCalled(5, 6, what), -1, 3);
        due.is("reason, no taxi and the rank", UNKNOWN, rank.reason(1, 10));
        each("shares, no such thing and no taxis", BAD_VALUE, rank::shares, -1, 3);
        due.is("no act", 0, rank.count(15));
        rank.come(1);
        each("reason, no place", UNKNOWN, to -> rank.reason(1, to), NO_PLACES);
    }

    private static void ordersOfErrorsWithoutRoom() {
        TaxiRank rank = new TaxiRank();
        for (int i = 0; i < 15; i++) {
            rank.come(i);
            rank.arrive(20);
        }
        each("come, no plate and no room", BAD_VALUE, rank::come, -1, 1000);
        due.is("come, a new one and no room", FULL, rank.come(12));
        due.is("come, one that is there, and no room", NOT_POSSIBLE, rank.come(11));
        each("arrive, no place and no room", UNKNOWN, rank::arrive, NO_PLACES);
        due.is("arrive, the rank and no room", BAD_VALUE, rank.arrive(10));
        due.is("arrive, no room", FULL, rank.arrive(20));
        Due.passTo(rank, 99999);
        each("pass, too few or too many minutes, and no room", BAD_VALUE, rank::pass, MIN, -1, 0, 1000, MAX);
        each("pass, no room", FULL, rank::pass, 1, 999);
        Due.retype(rank, ".1;");
        due.is("perform, a fault behind an order that would be stopped", -103, rank.perform());
        due.is("nothing is stopped", NONE, rank.stopped(0));
    }
}
