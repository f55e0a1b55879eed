import java.lang.reflect.InvocationTargetException;
import java.lang.reflect.Method;
import java.util.ArrayList;
import java.util.List;

/** Every call in each of many situations, on the class and on TaxiModel: the answer, and what is so behind it. */
public final class SituationsTest {
    private static final String ELEVEN_DAYS = "pass 999;".repeat(16);
    private static final String TWELVE = "come 1;come 2;come 3;come 4;come 5;come 6;come 7;come 8;come 9;come 11;come 12;come 13";
    private static final String FIFTEEN = "arrive 0;arrive 9;arrive 20;arrive 11;arrive 3;".repeat(3);
    /** 1 rests, 2 is on its way back, 3 with a passenger, 4 on its way to a caller, 5 and 10 in the line, 6 at home. */
    private static final String BUSY = "come 1;come 2;come 3;come 4;come 6;come 10;goHome 6;set 3 30;call 10 2;pass 32;"
        + "arrive 13;pass 7;call 10 20;call 0 5;arrive 4;arrive 19;pass 1;arrive 11;come 5";
    private static final String OUT = "come 2;come 1;come 4;arrive 12;arrive 3;pass 3;call 3 8;arrive 15;arrive 9;come 30";
    private static final String[] SITUATIONS = {
        "", "come 1;come 2;come 3", FIFTEEN, TWELVE, TWELVE + ";" + FIFTEEN, TWELVE + ";goHome 5;" + FIFTEEN + "pass 1",
        TWELVE + ";text w3;.2;c4>5;" + FIFTEEN + "pass 3;keep",
        BUSY, BUSY + ";keep;text c1>2;c1>2;c1>2;perform", BUSY + ";text w3;.50;c5>6;perform;keep;pass 30",
        OUT, OUT + ";pass 5", OUT + ";keep;pass 9;text w3;.1;undo",
        OUT + ";set 0 1", OUT + ";set 0 9;pass 2", OUT + ";set 1 2", OUT + ";set 1 240;pass 3", OUT + ";set 2 1;pass 4",
        OUT + ";set 2 20", OUT + ";set 3 30;pass 40", OUT + ";set 3 999", OUT + ";set 4 1;set 3 30;pass 60",
        OUT + ";set 4 240;set 3 30;pass 45", "set 4 50;set 0 3;set 1 9;set 2 4;set 3 77;" + OUT + ";text w3;.1;perform",
        "set 0 3;" + FIFTEEN + "text w1;perform;keep;come 8", "set 1 3;" + OUT + ";pass 20;goHome 2;arrive 4",
        ELEVEN_DAYS + OUT, ELEVEN_DAYS + OUT + ";keep;pass 6", "come 31;" + ELEVEN_DAYS + "come 2;come 1;arrive 5;arrive 0",
        "come 1;arrive 11;pass 5;come 2;arrive 3;keep;goHome 1", "come 1;call 10 20;pass 20;arrive 4;goHome 1;undo;keep"};
    private static final String[] ACTS = {
        "come 1", "come 5", "come 999", "goHome 1", "goHome 2", "goHome 5", "set 0 5", "set 1 30", "set 1 31", "set 2 9",
        "set 3 100", "set 4 9", "arrive 0", "arrive 11", "call 10 0", "call 0 1", "call 19 10", "pass 1", "pass 13",
        "pass 400", "type 119", "type 53", "clearText", "perform", "text w4;c3>4;.9", "undo", "keep", "restore"};
    private static final Due due = new Due();

    public static void main(String[] args) throws Exception {
        List<String> questions = questions();
        for (String situation : SITUATIONS) {
            ask(situation, questions);
            for (String act : ACTS) {
                act(situation, act);
            }
        }
        due.end();
    }

    private static List<String> questions() {
        List<String> all = new ArrayList<>();
        for (int plate : new int[] {1, 2, 3, 4, 5, 6, 10, 30, 31}) {
            for (int what = 0; what <= 9; what++) {
                all.add("taxi " + plate + " " + what);
            }
            all.add("reason " + plate + " 5");
            all.add("reason " + plate + " 0");
            all.add("inLineIn " + plate);
        }
        for (int i = 0; i <= 16; i++) {
            all.add("count " + i);
            all.add("line " + i);
            all.add("plate " + i);
            all.add("waiting " + i + " 0");
            all.add("waiting " + i + " 1");
            all.add("ridesIn " + i);
        }
        for (int place = 0; place <= 20; place += 5) {
            all.add("rides " + place);
            for (int what = 0; what <= 2; what++) {
                all.add("ifCalled " + place + " 8 " + what);
            }
        }
        for (int what = 0; what <= 2; what++) {
            all.add("shares " + what);
            all.add("stopped " + what);
        }
        return all;
    }

    private static void ask(String situation, List<String> questions) throws Exception {
        TaxiRank rank = new TaxiRank();
        TaxiModel model = new TaxiModel();
        make(rank, situation);
        make(model, situation);
        for (String question : questions) {
            due.is(question + " behind " + situation, answer(model, question), answer(rank, question));
        }
    }

    private static void act(String situation, String act) throws Exception {
        TaxiRank rank = new TaxiRank();
        TaxiModel model = new TaxiModel();
        make(rank, situation);
        make(model, situation);
        due.is(act + " behind " + situation, answer(model, act), answer(rank, act));
        String[] behind = {"stopped 0", "stopped 1", "shares 0", "shares 1", "line 0", "line 1", "waiting 0 1"};
        for (String later : new String[] {"count 0", "undo", "restore", "pass 33"}) {
            due.is(later + " behind " + act, answer(model, later), answer(rank, later));
            for (int what = 0; what <= 16; what++) {
                String count = "count " + what;
                due.is(count + " behind " + act + ", " + later, answer(model, count), answer(rank, count));
            }
            for (String question : behind) {
                due.is(question + " behind " + act + ", " + later, answer(model, question), answer(rank, question));
            }
        }
    }

    /** The orders of a text have ";" between them, too: a text ends ahead of the name of a call. */
    private static void make(Object town, String situation) throws Exception {
        for (String call : situation.split(";(?=come|goHome|set|arrive|call|pass|text|perform|undo|keep|restore|$)")) {
            if (!call.isEmpty()) {
                answer(town, call);
            }
        }
    }

    /** A call is a name and its numbers; "text" stands for typing one in place of the one that was, and performing it. */
    private static int answer(Object town, String call) throws Exception {
        String[] parts = call.split(" ");
        if (parts[0].equals("text")) {
            answer(town, "clearText");
            for (char character : parts[1].toCharArray()) {
                answer(town, "type " + (int) character);
            }
            return answer(town, "perform");
        }
        Class<?>[] types = new Class<?>[parts.length - 1];
        Object[] numbers = new Object[types.length];
        for (int i = 0; i < types.length; i++) {
            boolean isType = parts[0].equals("type");
            int number = Integer.parseInt(parts[i + 1]);
            types[i] = isType ? char.class : int.class;
            numbers[i] = isType ? (Object) (char) number : (Object) number;
        }
        Method method = town.getClass().getDeclaredMethod(parts[0], types);
        try {
            return (Integer) method.invoke(town, numbers);
        } catch (InvocationTargetException e) {
            throw new IllegalStateException(call, e.getCause());
        }
    }
}
