/** Texts of orders: behind each beginning each character, and the end; and each number that an order may hold. */
public final class GrammarTest {
    private static final int NO_FAULT = -1;
    private static final int SIGNS = 256;
    private static final char[] STRANGE = {256, 305, 0x660, 0x661, 0xff11, 0xffff};
    private static final String DIGITS = "0123456789";
    private static final Due due = new Due();

    public static void main(String[] args) {
        for (String ahead : new String[] {"", "w0;", "c20>0;", ".999;.1;"}) {
            texts(ahead);
            passengers(ahead + "w");
            callers(ahead + "c");
            minutes(ahead + ".");
        }
        lastCharacters();
        firstFaultOfSeveral();
        placesThatArePerformed();
        callsThatArePerformed();
        minutesThatArePerformed();
        due.end();
    }

    /** The fault of a text, by perform() on a new object. */
    private static int fault(String text) {
        TaxiRank rank = new TaxiRank();
        Due.retype(rank, text);
        due.is("count(16) of " + text, text.length(), rank.count(16));
        int answer = rank.perform();
        return answer <= -100 ? -100 - answer : NO_FAULT;
    }

    private static void behind(String beginning, String allowed, boolean mayEnd) {
        due.is("end behind " + beginning, mayEnd ? NO_FAULT : beginning.length(), fault(beginning));
        for (int sign = 0; sign < SIGNS; sign++) {
            character(beginning, (char) sign, allowed);
        }
        for (char sign : STRANGE) {
            character(beginning, sign, allowed);
        }
    }

    private static void character(String beginning, char sign, String allowed) {
        int fault = fault(beginning + sign);
        String what = "character " + (int) sign + " behind " + beginning;
        if (allowed.indexOf(sign) < 0) {
            due.is(what, beginning.length(), fault);
        } else {
            due.holds(what + " is allowed", fault == NO_FAULT || fault == beginning.length() + 1);
        }
    }

    private static void texts(String ahead) {
        behind(ahead, "wc.", false);
    }

    private static void passengers(String sign) {
        behind(sign, DIGITS, false);
        behind(sign + "0", ";", true);
        behind(sign + "1", DIGITS + ";", true);
        behind(sign + "2", "0;", true);
        behind(sign + "3", ";", true);
        behind(sign + "9", ";", true);
        behind(sign + "10", "", false);
        behind(sign + "11", ";", true);
        behind(sign + "19", ";", true);
        behind(sign + "20", ";", true);
    }

    private static void callers(String sign) {
        behind(sign, DIGITS, false);
        behind(sign + "0", ">", false);
        behind(sign + "1", DIGITS + ">", false);
        behind(sign + "2", "0>", false);
        behind(sign + "3", ">", false);
        behind(sign + "9", ">", false);
        behind(sign + "10", ">", false);
        behind(sign + "19", ">", false);
        behind(sign + "20", ">", false);
        behind(sign + "5>", DIGITS, false);
        behind(sign + "5>0", ";", true);
        behind(sign + "5>1", DIGITS + ";", true);
        behind(sign + "5>2", "0;", true);
        behind(sign + "5>4", ";", true);
        behind(sign + "5>9", ";", true);
        behind(sign + "5>10", ";", true);
        behind(sign + "5>15", ";", true);
        behind(sign + "5>20", ";", true);
        behind(sign + "0>0", "", false);
        behind(sign + "5>5", "", false);
        behind(sign + "9>9", "", false);
        behind(sign + "10>10", "", false);
        behind(sign + "15>15", "", false);
        behind(sign + "20>20", "", false);
        behind(sign + "10>1", DIGITS + ";", true);
        behind(sign + "20>2", "0;", true);
    }

    private static void minutes(String sign) {
        behind(sign, "123456789", false);
        behind(sign + "1", DIGITS + ";", true);
        behind(sign + "9", DIGITS + ";", true);
        behind(sign + "10", DIGITS + ";", true);
        behind(sign + "99", DIGITS + ";", true);
        behind(sign + "100", ";", true);
        behind(sign + "999", ";", true);
    }

    /** A fault at the last index that a text has, and behind it. */
    private static void lastCharacters() {
        String text = ".1;.1;.1;.1;.1;.1;.1;.1;.1;.1;.1;.1;.1;.1;.1;.1;.1;.1;.1;";
        due.is("57 characters", 57, text.length());
        due.is("59 characters", NO_FAULT, fault(text + ".1"));
        due.is("60 characters", NO_FAULT, fault(text + ".12"));
        due.is("60 characters, the last one not allowed", 59, fault(text + ".1w"));
        due.is("60 characters, and none behind ;", 60, fault(text + ".1;"));
        due.is("60 characters, and none behind >", 60, fault(text + "c1>"));
        due.is("60 characters, and none behind w10", 60, fault(text + "w10"));
        due.is("58 characters, and none behind .", 58, fault(text + "."));
        due.is("57 characters, and none behind ;", 57, fault(text));
    }

    private static void firstFaultOfSeveral() {
        due.is("two characters", 1, fault("wxx"));
        due.is("a character, and then an order", 0, fault("x;w1"));
        due.is("a call to its place, and then another", 4, fault("c5>5;c6>6"));
        due.is("the rank, and then another", 3, fault("w10;w21"));
        due.is("in the third order", 6, fault("w1;w1;x"));
        due.is("in the second order ahead of the third one", 4, fault("w1;wx;x"));
    }

    private static void placesThatArePerformed() {
        for (int place = 0; place <= 20; place++) {
            if (place == 10) {
                continue;
            }
            TaxiRank rank = new TaxiRank();
            Due.retype(rank, "w" + place);
            due.is("perform() of w" + place, 1, rank.perform());
            due.is("who waits", 1, rank.count(4));
            due.is("to", place, rank.waiting(0, 0));
        }
    }

    private static void callsThatArePerformed() {
        for (int from = 0; from <= 20; from++) {
            for (int to = 0; to <= 20; to++) {
                String text = "c" + from + ">" + to;
                TaxiRank rank = Due.withTaxis(1);
                Due.retype(rank, text);
                if (from == to) {
                    due.is("perform() of " + text, -100 - text.length(), rank.perform());
                    continue;
                }
                due.is("perform() of " + text, 1, rank.perform());
                due.is("calls", 1, rank.count(7));
                due.is("in the line in", 2 * (Math.abs(from - 10) + Math.abs(to - from) + Math.abs(to - 10)),
                    rank.inLineIn(1));
                due.is("paid", 30 + 12 * Math.abs(to - from), rank.pass(80));
            }
        }
    }

    private static void minutesThatArePerformed() {
        for (int minutes = 1; minutes <= 999; minutes++) {
            TaxiRank rank = new TaxiRank();
            Due.retype(rank, "." + minutes);
            due.is("perform() of ." + minutes, 1, rank.perform());
            due.is("the clock", minutes, rank.count(0));
        }
    }
}
