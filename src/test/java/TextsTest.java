/** Promises 8 to 11: type, clearText, perform, stopped. */
public final class TextsTest {
    private static final Due due = new Due();

    public static void main(String[] args) {
        typing();
        faults();
        faultsChangeNothing();
        performs();
        stops();
        longTexts();
        due.end();
    }

    private static void typing() {
        TaxiRank rank = new TaxiRank();
        due.is("clearText()", 0, rank.clearText());
        for (int i = 1; i <= 60; i++) {
            due.is("type", i, rank.type((char) (i * 1092)));
        }
        due.is("the 61st", TaxiRank.FULL, rank.type('w'));
        due.is("count(16)", 60, rank.count(16));
        due.is("perform()", -100, rank.perform());
        due.is("clearText()", 60, rank.clearText());
        due.is("clearText()", 0, rank.clearText());
        due.is("count(16)", 0, rank.count(16));
        due.is("type", 1, rank.type((char) 0));
        due.is("typing is no act", 0, rank.count(15));
        // the text is no part of the state
        rank.come(1);
        rank.type('w');
        rank.undo();
        due.is("count(16)", 2, rank.count(16));
        rank.keep();
        rank.clearText();
        rank.restore();
        due.is("count(16)", 0, rank.count(16));
    }

    private static void fault(String text, int at) {
        TaxiRank rank = Due.withTaxis(1, 2, 3, 4, 5, 6, 7, 8, 9);
        Due.retype(rank, text);
        due.is("fault of " + text, -100 - at, rank.perform());
        due.is("no stop", TaxiRank.NONE, rank.stopped(0));
    }

    private static void fine(String text, int orders) {
        TaxiRank rank = Due.withTaxis(1, 2, 3, 4, 5, 6, 7, 8, 9);
        Due.retype(rank, text);
        due.is("orders of " + text, orders, rank.perform());
    }

    private static void faults() {
        fault("", 0);
        fault(";", 0);
        fault(" w1", 0);
        fault("W1", 0);
        fault("1", 0);
        fault("w", 1);
        fault("wx", 1);
        fault("w;", 1);
        fault("w-1", 1);
        fault("w00", 2);
        fault("w01", 2);
        fault("w21", 2);
        fault("w30", 2);
        fault("w200", 3);
        fault("w190", 3);
        fault("w10", 3);
        fault("w10;w1", 3);
        fault("w100", 3);
        fault("w1 ", 2);
        fault("w1;", 3);
        fault("w1;;w1", 3);
        fault("w1;x", 3);
        fault("w1w2", 2);
        fault("w1>2", 2);
        fault("c", 1);
        fault("c>", 1);
        fault("c5", 2);
        fault("c5;", 2);
        fault("c21>1", 2);
        fault("c05>1", 2);
        fault("c5>", 3);
        fault("c5>x", 3);
        fault("c5>>", 3);
        fault("c5>5", 4);
        fault("c5>5;w1", 4);
        fault("c5>56", 4);
        fault("c5>05", 4);
        fault("c10>10", 6);
        fault("c10>10;", 6);
        fault("c0>0", 4);
        fault("c1>1", 4);
        fault("c1>1;", 4);
        fault("c1>100", 5);
        fault("c20>20", 6);
        fault("c3>4;c4>4", 9);
        fault(".", 1);
        fault(".0", 1);
        fault(".01", 1);
        fault(".-1", 1);
        fault(".1000", 4);
        fault(".9999", 4);
        fault(".5.", 2);
        fault("w1" + (char) 0x0131, 2);
        fault("w" + (char) 0x0661, 1);
        fine("w0", 1);
        fine("w1", 1);
        fine("w9;w11;w20", 3);
        fine("c0>20", 1);
        fine("c10>0;c0>10", 2);
        // the place goes on behind the digit that alone would be the place from which the call is
        fine("c1>12", 1);
        fine("c1>10", 1);
        fine("c2>20", 1);
        fine("c12>1", 1);
        fine(".1;.9;.10;.100;.999", 5);
    }

    private static void faultsChangeNothing() {
        TaxiRank rank = new TaxiRank();
        Due.retype(rank, "w1;w2;x");
        due.is("perform()", -106, rank.perform());
        due.is("count(4)", 0, rank.count(4));
        due.is("count(15)", 0, rank.count(15));
        due.is("count(16)", 7, rank.count(16));
    }

    private static void performs() {
        TaxiRank rank = Due.withTaxis(1, 2);
        int states = rank.count(15);
        Due.retype(rank, "w12;c8>7;.1;w3");
        due.is("perform()", 4, rank.perform());
        due.is("one act", states + 1, rank.count(15));
        due.is("the text stays", 14, rank.count(16));
        due.is("count(0)", 1, rank.count(0));
        due.is("count(4)", 1, rank.count(4));
        due.taxi(rank, 1, 1, TaxiRank.NONE, 3, 1);
        due.taxi(rank, 2, 2, TaxiRank.NONE, 4, 0);
        due.is("stopped(0)", TaxiRank.NONE, rank.stopped(0));
        due.is("stopped(1)", TaxiRank.NONE, rank.stopped(1));
        due.is("undo()", states, rank.undo());
        due.is("count(0)", 0, rank.count(0));
        due.line(rank, 1, 2);
        due.is("again", 4, rank.perform());
        due.is("the third call can't be taken", TaxiRank.NOT_POSSIBLE, rank.perform());
    }

    private static void stops() {
        TaxiRank rank = Due.withTaxis(1);
        due.is("stopped(-1)", TaxiRank.BAD_VALUE, rank.stopped(-1));
        due.is("stopped(2)", TaxiRank.BAD_VALUE, rank.stopped(2));
        due.is("stopped(0)", TaxiRank.NONE, rank.stopped(0));
        Due.retype(rank, "w1;.1;c5>4;w2");
        due.is("perform()", TaxiRank.NOT_POSSIBLE, rank.perform());
        due.is("order", 2, rank.stopped(0));
        due.is("error", TaxiRank.NOT_POSSIBLE, rank.stopped(1));
        due.is("nothing is changed", 0, rank.count(0));
        due.is("nobody waits", 0, rank.count(4));
        due.line(rank, 1);
        due.is("nothing is recorded", 1, rank.count(15));
        for (int i = 0; i < 14; i++) {
            rank.arrive(5);
        }
        Due.retype(rank, "w1;w2");
        due.is("perform()", TaxiRank.NOT_POSSIBLE, rank.perform());
        due.is("order", 1, rank.stopped(0));
        due.is("error", TaxiRank.FULL, rank.stopped(1));
        due.is("count(4)", 14, rank.count(4));
        Due.retype(rank, "w1x");
        due.is("a fault", -102, rank.perform());
        due.is("is no stop", 1, rank.stopped(0));
        Due.retype(rank, "w1");
        due.is("perform()", 1, rank.perform());
        due.is("the latest stop is told still", 1, rank.stopped(0));
        rank.undo();
        due.is("it is no part of the state", TaxiRank.FULL, rank.stopped(1));
        // beyond the last minute
        Due.passTo(rank, 99998);
        Due.retype(rank, ".1;.1");
        due.is("perform()", TaxiRank.NOT_POSSIBLE, rank.perform());
        due.is("order", 1, rank.stopped(0));
        due.is("error", TaxiRank.FULL, rank.stopped(1));
        due.is("count(0)", 99998, rank.count(0));
        Due.retype(rank, ".2");
        due.is("perform()", TaxiRank.NOT_POSSIBLE, rank.perform());
        due.is("order", 0, rank.stopped(0));
    }

    private static void longTexts() {
        TaxiRank rank = new TaxiRank();
        StringBuilder text = new StringBuilder(".1");
        for (int i = 1; i < 20; i++) {
            text.append(";.1");
        }
        Due.retype(rank, text.toString());
        due.is("twenty orders", 20, rank.perform());
        due.is("count(0)", 20, rank.count(0));
        due.is("one more", 60, rank.type(';'));
        due.is("ends too early", -160, rank.perform());
        Due.retype(rank, text.substring(1) + ";;");
        due.is("a fault ahead", -100, rank.perform());
        Due.retype(rank, text + "2");
        due.is("twenty orders, the last of two digits", 20, rank.perform());
        due.is("count(0)", 51, rank.count(0));
        Due.retype(rank, text + "x");
        due.is("the last character", -159, rank.perform());
    }
}
