import java.io.IOException;
import java.lang.reflect.Constructor;
import java.lang.reflect.Method;
import java.lang.reflect.Modifier;
import java.nio.file.Files;
import java.nio.file.Path;
import java.util.ArrayList;
import java.util.Arrays;
import java.util.List;
import java.util.Set;
import java.util.TreeSet;
import java.util.regex.Matcher;
import java.util.regex.Pattern;

/** The rules of ../shared/LANGUAGE.md that can be seen in the text of the class, and its face. */
public final class LanguageTest {
    private static final Path SOURCE = Path.of("src/main/java/TaxiRank.java");
    private static final String[] FACE = {
        "come(int)", "goHome(int)", "set(int,int)", "arrive(int)", "call(int,int)", "pass(int)", "type(char)",
        "clearText()", "perform()", "stopped(int)", "undo()", "keep()", "restore()", "taxi(int,int)", "line(int)",
        "plate(int)", "waiting(int,int)", "rides(int)", "ifCalled(int,int,int)", "reason(int,int)", "ridesIn(int)",
        "inLineIn(int)", "shares(int)", "count(int)"};
    private static final String[] FORBIDDEN = {
        "\\bthrows?\\b", "\\btry\\b", "\\bcatch\\b", "\\bsynchronized\\b", "\\bassert\\b", "\\bimport\\b",
        "\\bpackage\\b", "\\brecord\\b", "->", "::", "\\bMath\\.\\w*Exact\\b", "\\bSystem\\.(?!arraycopy)",
        "\\bequals\\b", "\\bhashCode\\b", "\\btoString\\b", "\\bthread", "\\bObject\\b", "[^\\x00-\\x7f]"};
    private static final int MOST_LINES = 60;
    private static final int MOST_DEPTH = 8;
    private static final Due due = new Due();

    public static void main(String[] args) throws IOException {
        String code = withoutComments(Files.readString(SOURCE));
        for (String sign : FORBIDDEN) {
            due.holds("without " + sign, !Pattern.compile(sign).matcher(code).find());
        }
        face();
        inside();
        methods(code);
        due.end();
    }

    private static String withoutComments(String source) {
        return source.replaceAll("(?s)/\\*.*?\\*/", "").replaceAll("//[^\n]*", "");
    }

    private static void face() {
        Set<String> wanted = new TreeSet<>(Arrays.asList(FACE));
        Set<String> found = new TreeSet<>();
        Set<String> names = new TreeSet<>();
        for (Method method : TaxiRank.class.getDeclaredMethods()) {
            String types = Arrays.toString(method.getParameterTypes()).replaceAll("[\\[\\] ]", "");
            if (Modifier.isPrivate(method.getModifiers())) {
                names.add(method.getName());
            } else {
                found.add(method.getName() + "(" + types + ")");
                due.holds(method + " is public", Modifier.isPublic(method.getModifiers()));
                due.holds(method + " tells an int", method.getReturnType() == int.class);
            }
        }
        due.holds("the face: " + found, wanted.equals(found));
        for (Class<?> inner : TaxiRank.class.getDeclaredClasses()) {
            for (Method method : inner.getDeclaredMethods()) {
                names.add(method.getName());
            }
        }
        for (String signature : FACE) {
            String name = signature.substring(0, signature.indexOf('('));
            due.holds("no other method has the name " + name, !names.contains(name));
        }
        due.is("constructors", 1, TaxiRank.class.getDeclaredConstructors().length);
        for (Constructor<?> constructor : TaxiRank.class.getConstructors()) {
            due.is("its parameters", 0, constructor.getParameterCount());
        }
        due.is("public fields", 5, TaxiRank.class.getFields().length);
        due.holds("final", Modifier.isFinal(TaxiRank.class.getModifiers()));
    }

    private static void inside() {
        List<Class<?>> classes = new ArrayList<>(Arrays.asList(TaxiRank.class.getDeclaredClasses()));
        due.holds("at most twelve classes", classes.size() < 12);
        for (Class<?> inner : classes) {
            due.holds(inner + " is static", Modifier.isStatic(inner.getModifiers()));
            due.holds(inner + " is not public", !Modifier.isPublic(inner.getModifiers()));
        }
        classes.add(TaxiRank.class);
        for (Class<?> one : classes) {
            long own = Arrays.stream(one.getDeclaredFields()).filter(f -> !Modifier.isStatic(f.getModifiers())).count();
            due.holds(one + " has at most twenty fields", own <= 20);
            Arrays.stream(one.getDeclaredFields()).filter(f -> Modifier.isStatic(f.getModifiers()))
                .forEach(f -> due.holds(f + " is final", Modifier.isFinal(f.getModifiers())));
        }
    }

    private record Body(String name, int parameters, String text) { }

    private static void methods(String code) {
        List<Body> bodies = bodies(code);
        due.holds("methods are found", bodies.size() > 60);
        for (Body body : bodies) {
            due.holds(body.name + " has at most seven parameters", body.parameters <= 7);
            due.holds(body.name + " is short", body.text.lines().count() <= MOST_LINES);
            due.holds(body.name + " goes at most eight deep", depth(body, bodies, 1) <= MOST_DEPTH);
        }
    }

    /** Methods begin at the same depth of brackets as the fields of their class. */
    private static List<Body> bodies(String code) {
        List<Body> bodies = new ArrayList<>();
        Matcher head = Pattern.compile("(?m)^ +(?:[\\w\\[\\]]+ )*?(\\w+)\\(([^()]*)\\) \\{$").matcher(code);
        while (head.find()) {
            if (head.group().trim().matches("(if|for|while|switch|\\}).*")) {
                continue;
            }
            int open = 1;
            int end = head.end();
            while (open > 0 && end < code.length()) {
                open += code.charAt(end) == '{' ? 1 : code.charAt(end) == '}' ? -1 : 0;
                end++;
            }
            String types = head.group(2).trim();
            int parameters = types.isEmpty() ? 0 : types.split(",").length;
            bodies.add(new Body(head.group(1), parameters, code.substring(head.end(), end)));
        }
        return bodies;
    }

    /** Methods of one name are taken for one another: that may say too much, but not too little. */
    private static int depth(Body body, List<Body> bodies, int reached) {
        int deepest = reached;
        for (Body other : bodies) {
            boolean isCalled = Pattern.compile("\\b" + other.name + "\\(").matcher(body.text).find();
            if (isCalled && other != body && reached <= MOST_DEPTH) {
                deepest = Math.max(deepest, depth(other, bodies, reached + 1));
            }
        }
        return deepest;
    }
}
