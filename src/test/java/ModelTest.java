import java.util.Random;

/** All promises: runs of calls, drawn from fixed seeds, on the class and on TaxiModel. */
public final class ModelTest {
    private static final int RUNS = 6000;
    /** An object is used for at most 512 calls; an act with its text and its questions takes at most 100. */
    private static final int CALLS = 412;
    private static final int QUESTIONS = 10;
    private static final int[] ODD = {Integer.MIN_VALUE, -100, -1, 0, 1, 5, 10, 20, 21, 240, 1000, Integer.MAX_VALUE};
    private static final String SIGNS = "0123456789wwwccc...>>>;;;;x";

    private final Random random;
    private final TaxiRank rank = new TaxiRank();
    private final TaxiModel model = new TaxiModel();
    private final StringBuilder calls = new StringBuilder();
    private final int[] plates;
    private boolean wrong = false;
    private int made = 0;

    private ModelTest(int seed) {
        random = new Random(seed);
        plates = new int[14];
        for (int i = 0; i < plates.length; i++) {
            plates[i] = random.nextInt(4) == 0 ? 10 * random.nextInt(100) : random.nextInt(1000);
        }
    }

    public static void main(String[] args) {
        int failed = 0;
        for (int seed = 0; seed < RUNS && failed < 3; seed++) {
            if (!new ModelTest(seed).agree(seed)) {
                failed++;
            }
        }
        System.out.println(failed == 0 ? RUNS + " runs agree with the model" : failed + " runs do not agree");
        if (failed != 0) {
            System.exit(1);
        }
    }

    private boolean agree(int seed) {
        int pace = 1 + seed % 3 * (seed % 5) * 40;
        while (made < CALLS && !wrong) {
            act(pace);
            for (int i = random.nextInt(QUESTIONS); i > 0; i--) {
                ask();
            }
        }
        if (wrong) {
            System.out.println("run " + seed + ":\n" + calls);
        }
        return !wrong;
    }

    private void same(String call, int got, int want) {
        made++;
        if (got != want) {
            wrong = true;
            calls.append(call).append(" answered ").append(got).append(", the model ").append(want).append('\n');
        }
    }

    private void acted(String call, int got, int want) {
        calls.append(call).append(" = ").append(got).append('\n');
        same(call, got, want);
    }

    private int place() {
        return random.nextInt(40) == 0 ? odd() : random.nextInt(21);
    }

    private int odd() {
        return ODD[random.nextInt(ODD.length)];
    }

    private int plate() {
        return random.nextInt(40) == 0 ? odd() : plates[random.nextInt(plates.length)];
    }

    private int minutes(int pace) {
        int kind = random.nextInt(30);
        return kind == 0 ? odd() : kind == 1 ? random.nextInt(1000) : kind < 10 ? 1 : 1 + random.nextInt(12 + pace);
    }

    private int value(int which) {
        int[] least = {1, 1, 1, 30, 1};
        int[] most = {9, 240, 20, 999, 240};
        if (which < 0 || which > 4 || random.nextInt(10) == 0) {
            return odd();
        }
        if (random.nextInt(4) == 0) {
            return (random.nextBoolean() ? least[which] : most[which]) + random.nextInt(3) - 1;
        }
        return 1 + random.nextInt(Math.min(most[which], 100));
    }

    private void act(int pace) {
        int from = place();
        int to = place();
        int plate = plate();
        int minutes = minutes(pace);
        int which = random.nextInt(20) == 0 ? odd() : random.nextInt(5);
        int value = value(which);
        switch (random.nextInt(22)) {
            case 0, 1, 2 -> acted("come(" + plate + ")", rank.come(plate), model.come(plate));
            case 3 -> acted("goHome(" + plate + ")", rank.goHome(plate), model.goHome(plate));
            case 4 -> acted("set(" + which + ", " + value + ")", rank.set(which, value), model.set(which, value));
            case 5, 6, 7, 8 -> acted("arrive(" + to + ")", rank.arrive(to), model.arrive(to));
            case 9, 10, 11 -> acted("call(" + from + ", " + to + ")", rank.call(from, to), model.call(from, to));
            case 12, 13, 14, 15, 16, 17 ->
                acted("pass(" + minutes + ")", rank.pass(minutes), model.pass(minutes));
            case 18 -> {
                if (random.nextInt(2) == 0) {
                    acted("undo()", rank.undo(), model.undo());
                }
            }
            case 19 -> {
                if (random.nextInt(3) == 0) {
                    acted("keep()", rank.keep(), model.keep());
                } else if (random.nextInt(4) == 0) {
                    acted("restore()", rank.restore(), model.restore());
                }
            }
            default -> text();
        }
    }

    private void text() {
        if (random.nextInt(8) != 0) {
            acted("clearText()", rank.clearText(), model.clearText());
        }
        String text = random.nextInt(3) == 0 ? anySigns() : orders();
        for (char sign : text.toCharArray()) {
            acted("type('" + sign + "')", rank.type(sign), model.type(sign));
        }
        acted("perform()", rank.perform(), model.perform());
    }

    private String anySigns() {
        StringBuilder text = new StringBuilder();
        for (int i = random.nextInt(12); i > 0; i--) {
            text.append(SIGNS.charAt(random.nextInt(SIGNS.length())));
        }
        return text.toString();
    }

    private String orders() {
        StringBuilder text = new StringBuilder();
        for (int i = random.nextInt(5); i >= 0; i--) {
            int from = random.nextInt(22);
            int to = random.nextInt(22);
            switch (random.nextInt(4)) {
                case 0 -> text.append('w').append(to);
                case 1 -> text.append('c').append(from).append('>').append(to);
                default -> text.append('.').append(random.nextInt(30));
            }
            text.append(i > 0 ? ";" : "");
        }
        if (random.nextInt(6) == 0) {
            text.setCharAt(random.nextInt(text.length()), SIGNS.charAt(random.nextInt(SIGNS.length())));
        }
        return text.toString();
    }

    private void ask() {
        int from = place();
        int to = place();
        int plate = plate();
        int what = random.nextInt(20) - 1;
        int at = random.nextInt(40) == 0 ? odd() : random.nextInt(random.nextInt(2) == 0 ? 4 : 16);
        switch (random.nextInt(14)) {
            case 0 -> same("count(" + what + ")", rank.count(what), model.count(what));
            case 1, 2, 3 -> {
                int which = what % 12;
                same("taxi(" + plate + ", " + which + ")", rank.taxi(plate, which), model.taxi(plate, which));
            }
            case 4 -> same("line(" + at + ")", rank.line(at), model.line(at));
            case 5 -> same("plate(" + at + ")", rank.plate(at), model.plate(at));
            case 6 -> {
                int which = what % 4;
                same("waiting(" + at + ", " + which + ")", rank.waiting(at, which), model.waiting(at, which));
            }
            case 7 -> same("rides(" + to + ")", rank.rides(to), model.rides(to));
            case 8 -> {
                int which = what % 4;
                same("ifCalled(" + from + ", " + to + ", " + which + ")", rank.ifCalled(from, to, which),
                    model.ifCalled(from, to, which));
            }
            case 9 -> same("reason(" + plate + ", " + to + ")", rank.reason(plate, to), model.reason(plate, to));
            case 10 -> same("ridesIn(" + at + ")", rank.ridesIn(at), model.ridesIn(at));
            case 11 -> same("inLineIn(" + plate + ")", rank.inLineIn(plate), model.inLineIn(plate));
            case 12 -> same("shares(" + what % 4 + ")", rank.shares(what % 4), model.shares(what % 4));
            default -> same("stopped(" + what % 3 + ")", rank.stopped(what % 3), model.stopped(what % 3));
        }
    }
}
