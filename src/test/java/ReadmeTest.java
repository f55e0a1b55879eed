import java.io.IOException;
import java.lang.reflect.Method;
import java.net.URL;
import java.net.URLClassLoader;
import java.nio.file.Files;
import java.nio.file.Path;
import java.util.Comparator;
import java.util.Set;
import java.util.TreeSet;
import java.util.function.BiConsumer;
import java.util.regex.Matcher;
import java.util.regex.Pattern;
import java.util.stream.Collectors;
import java.util.stream.Stream;

/** README.md and SENTENCES.md hold as written: each call of the examples with its answer, each name in a table. */
public final class ReadmeTest {
    private static final Path README = Path.of("README.md");
    private static final Path SENTENCES = Path.of("src/test/SENTENCES.md");
    private static final Path DOCUMENT = Path.of("../shared/DOC.md");
    private static final Path TESTS = Path.of("src/test/java");
    private static final Path CI = Path.of(".ci/run");
    private static final Due due = new Due();

    public static void main(String[] args) throws Exception {
        String readme = Files.readString(README);
        examples(readme);
        methods(readme);
        settings(readme);
        constants(readme);
        tests(readme);
        command(readme);
        sentences(Files.readString(SENTENCES));
        due.end();
    }

    private static Set<String> all(String regex, String text) {
        return Pattern.compile(regex).matcher(text).results().map(found -> found.group(1))
            .collect(Collectors.toCollection(TreeSet::new));
    }

    /** The examples, one behind the other, as a program that hands on what each call answers. */
    private static void examples(String readme) throws Exception {
        StringBuilder program = new StringBuilder("public final class Examples {\n"
            + "public static void run(java.util.function.BiConsumer<String, int[]> told) {\n");
        Matcher block = Pattern.compile("(?s)```java\n(.*?)```").matcher(readme);
        int calls = 0;
        while (block.find()) {
            for (String line : block.group(1).split("\n")) {
                Matcher call = Pattern.compile("(rank\\..*?); *// (-?[0-9]+|[A-Z_]+): .*").matcher(line);
                if (call.matches()) {
                    calls++;
                    String want = call.group(2).matches("[A-Z_]+") ? "TaxiRank." + call.group(2) : call.group(2);
                    program.append("told.accept(\"").append(call.group(1).replace("\"", "")).append("\", new int[] {")
                        .append(want).append(", ").append(call.group(1)).append("});\n");
                } else {
                    due.holds("an answer behind " + line, !line.contains("//"));
                    program.append(line).append('\n');
                }
            }
        }
        due.holds("there are examples", calls >= 30);
        BiConsumer<String, int[]> told = (call, numbers) -> due.is("README: " + call, numbers[0], numbers[1]);
        run(program.append("}\n}\n").toString(), told);
    }

    private static void run(String program, BiConsumer<String, int[]> told) throws Exception {
        Path room = Files.createTempDirectory("readme");
        try {
            Path source = Files.writeString(room.resolve("Examples.java"), program);
            String classes = System.getProperty("java.class.path");
            int failed = new ProcessBuilder("javac", "-Xlint:all", "-Werror", "-cp", classes, "-d", room.toString(),
                source.toString()).inheritIO().start().waitFor();
            due.is("the examples are compiled", 0, failed);
            if (failed == 0) {
                URL[] places = {room.toUri().toURL()};
                try (URLClassLoader loader = new URLClassLoader(places, ReadmeTest.class.getClassLoader())) {
                    loader.loadClass("Examples").getMethod("run", BiConsumer.class).invoke(null, told);
                }
            }
        } finally {
            try (Stream<Path> files = Files.walk(room)) {
                files.sorted(Comparator.reverseOrder()).forEach(file -> file.toFile().delete());
            }
        }
    }

    /** Each promise but the first has its row, with the name that the document gives it and all its arguments. */
    private static void methods(String readme) throws IOException {
        String document = Files.readString(DOCUMENT);
        for (Method method : TaxiRank.class.getMethods()) {
            if (method.getDeclaringClass() != TaxiRank.class) {
                continue;
            }
            String name = method.getName();
            Matcher row = Pattern.compile("\\| ([0-9]+) \\| `" + name + "\\(([a-z, ]*)\\)` \\|").matcher(readme);
            boolean isThere = row.find();
            due.holds(name + " has a row", isThere);
            if (isThere) {
                int parameters = row.group(2).isEmpty() ? 0 : row.group(2).split(", ").length;
                due.is("arguments of " + name, method.getParameterCount(), parameters);
                due.holds("the promise of " + name, document.contains("## Promise " + row.group(1) + ": " + name + "\n"));
            }
        }
        due.is("rows", 24, all("(?m)^\\| ([0-9]+) \\| `", readme).size());
    }

    private static void settings(String readme) {
        Matcher row = Pattern.compile("(?m)^\\| ([0-4]) \\| .* \\| ([0-9]+) to ([0-9]+) \\| ([0-9]+) \\|$").matcher(readme);
        int rows = 0;
        for (; row.find(); rows++) {
            int which = Integer.parseInt(row.group(1));
            int lowest = Integer.parseInt(row.group(2));
            int highest = Integer.parseInt(row.group(3));
            int first = Integer.parseInt(row.group(4));
            TaxiRank rank = new TaxiRank();
            due.is("setting " + which + " at first", first, rank.count(10 + which));
            due.is("its lowest value", first, rank.set(which, lowest));
            due.is("below", TaxiRank.BAD_VALUE, rank.set(which, lowest - 1));
            due.is("its highest value", lowest, rank.set(which, highest));
            due.is("above", TaxiRank.BAD_VALUE, rank.set(which, highest + 1));
        }
        due.is("settings", 5, rows);
    }

    private static void constants(String readme) throws IllegalAccessException {
        for (java.lang.reflect.Field field : TaxiRank.class.getFields()) {
            String row = "| `" + field.getName() + "` | " + field.getInt(null) + " |";
            due.holds(row, readme.contains(row));
        }
    }

    private static void tests(String readme) throws IOException {
        Set<String> there;
        try (Stream<Path> files = Files.list(TESTS)) {
            there = files.map(file -> file.getFileName().toString()).filter(name -> name.endsWith("Test.java"))
                .map(name -> name.replace(".java", "")).collect(Collectors.toCollection(TreeSet::new));
        }
        Set<String> told = all("(?m)^\\| `(\\w+Test)` \\|", readme);
        due.holds("the table of tests " + told + ", there are " + there, told.equals(there));
    }

    private static void command(String readme) throws IOException {
        due.holds("the command is told", readme.contains("\n    bash " + CI + "\n"));
        due.holds("it is there, and may be run", Files.isExecutable(CI));
        String script = Files.readString(CI);
        due.holds("it runs the project's tests", script.contains("for file in src/test/java/*Test.java; do"));
        due.holds("it runs the tests that are shared", script.contains("for file in ../shared/tests/*.java; do"));
    }

    /** Letters stand for tests; each name behind one is a method there, and each promise has a row. */
    private static void sentences(String page) throws IOException {
        Matcher letter = Pattern.compile("`([A-Z])`: (\\w+Test)").matcher(page);
        int letters = 0;
        for (; letter.find(); letters++) {
            String test = Files.readString(TESTS.resolve(letter.group(2) + ".java"));
            for (String name : all("\\b" + letter.group(1) + "\\.(\\w+)", page)) {
                due.holds(letter.group(2) + " has " + name,
                    Pattern.compile("static [\\w<>]+ " + name + "\\(").matcher(test).find());
            }
        }
        due.holds("letters are told", letters > 10);
        Set<String> told = all("\\b([A-Z])\\.[a-z]\\w*", page);
        due.holds("each letter is told: " + told, all("`([A-Z])`: \\w+Test", page).containsAll(told));
        for (int promise = 1; promise <= 25; promise++) {
            due.holds("promise " + promise + " has a row",
                Pattern.compile("(?m)^\\| " + promise + " ").matcher(page).find());
        }
    }
}
