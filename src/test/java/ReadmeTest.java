import java.lang.reflect.Method;
import java.nio.charset.StandardCharsets;
import java.nio.file.Files;
import java.nio.file.Path;
import java.util.ArrayList;
import java.util.Arrays;
import java.util.List;
import java.util.TreeSet;
import java.util.regex.Matcher;
import java.util.regex.Pattern;
import java.util.stream.Stream;

/** README.md: its calls answer what it says, its refusals are the document's, its tests are those that there are. */
public final class ReadmeTest {
    private static final Check CHECK = new Check("ReadmeTest");
    private static final Pattern CALL = Pattern.compile("x\\.(\\w+)\\((.*)\\); *// (-?\\d+): (.*)");
    private static final Pattern PROMISE = Pattern.compile("`\\w+ (\\w+)\\(.*?\\)`: (.*)");
    private static final String[] REFUSALS = {"UNKNOWN", "BAD", "LATE", "FULL", "NONE"};
    private static final int[] NUMBERS = {-1, -2, -3, -4, -9};

    public static void main(String[] args) throws Exception {
        List<String> readme = Files.readAllLines(Path.of("README.md"), StandardCharsets.US_ASCII);
        calls(readme);
        refusals(readme);
        tests(readme);
        CHECK.end();
    }

    private static void is(String what, boolean holds) {
        CHECK.due(1, "README.md: " + what, holds ? 1 : 0, 1);
    }

    /** All blocks of calls, one behind another, on one object. */
    private static void calls(List<String> readme) throws Exception {
        LouderRoom x = null;
        boolean inside = false;
        TreeSet<String> called = new TreeSet<>();
        for (String line : readme) {
            if (line.startsWith("```")) {
                inside = line.equals("```java");
            } else if (inside && line.equals("LouderRoom x = new LouderRoom();")) {
                x = new LouderRoom();
            } else if (inside) {
                Matcher call = CALL.matcher(line);
                is("an object is made, and a call told with its answer: " + line, x != null && call.matches());
                CHECK.due(1, "README.md: " + line, answer(x, call.group(1), call.group(2)), Long.parseLong(call.group(3)));
                called.add(call.group(1));
                named(line, call.group(3), call.group(4));
            }
        }
        is("it shows enough calls: " + called, called.size() >= 28);
    }

    /** A number below 0 is told with its name. */
    private static void named(String line, String number, String words) {
        int place = Arrays.asList("-1", "-2", "-3", "-4", "-9").indexOf(number);
        is("its refusal is told by name: " + line, place < 0 || words.startsWith(REFUSALS[place] + ","));
    }

    private static long answer(LouderRoom x, String name, String told) throws Exception {
        for (Method method : LouderRoom.class.getMethods()) {
            if (method.getName().equals(name)) {
                String[] words = told.isEmpty() ? new String[0] : told.split(", ");
                Class<?>[] types = method.getParameterTypes();
                Object[] values = new Object[types.length];
                for (int i = 0; i < types.length; i++) {
                    values[i] = value(words[i], types[i]);
                }
                return ((Number) method.invoke(x, values)).longValue();
            }
        }
        throw new IllegalArgumentException(name);
    }

    private static Object value(String word, Class<?> type) {
        if (type == boolean.class) {
            return Boolean.valueOf(word);
        }
        long number = Long.decode(word.replace("L", ""));
        return type == long.class ? (Object) number : (Object) (int) number;
    }

    /** Each call has its row, with the refusals that the document tells, in its order; and the class has their numbers. */
    private static void refusals(List<String> readme) throws Exception {
        List<String> rows = new ArrayList<>();
        for (String line : Files.readAllLines(Path.of("../shared/DOC.md"), StandardCharsets.UTF_8)) {
            Matcher promise = PROMISE.matcher(line);
            if (promise.matches()) {
                rows.add(promise.group(1) + told(promise.group(2)));
            }
        }
        CHECK.due(1, "README.md: methods in the document", rows.size(), 34);
        List<String> said = new ArrayList<>();
        for (String line : readme) {
            String[] cells = line.split("\\|", -1);
            if (cells.length == 8 && cells[1].matches(" `\\w+` ")) {
                StringBuilder row = new StringBuilder(cells[1].replace("`", "").trim());
                for (int i = 0; i < REFUSALS.length; i++) {
                    row.append(cells[i + 2].isBlank() ? "" : " " + REFUSALS[i]);
                }
                said.add(row.toString());
            }
        }
        is("its rows " + said + " are " + rows, said.equals(rows));
        for (int i = 0; i < REFUSALS.length; i++) {
            CHECK.due(1, "README.md: " + REFUSALS[i], LouderRoom.class.getField(REFUSALS[i]).getInt(null), NUMBERS[i]);
            String head = "`" + REFUSALS[i] + "` (" + NUMBERS[i] + ")";
            is(head + " heads a column", readme.stream().anyMatch(line -> line.startsWith("| call |") && line.contains(head)));
        }
    }

    private static String told(String words) {
        StringBuilder seen = new StringBuilder();
        Matcher word = Pattern.compile("\\b(UNKNOWN|BAD|LATE|FULL|NONE)\\b").matcher(words);
        while (word.find()) {
            if (word.group().equals("NONE")) {
                continue;
            }
            seen.append(' ').append(word.group());
        }
        return words.contains("NONE") ? seen.append(" NONE").toString() : seen.toString();
    }

    private static void tests(List<String> readme) throws Exception {
        TreeSet<String> there = new TreeSet<>();
        try (Stream<Path> files = Files.list(Path.of("src/test/java"))) {
            files.map(file -> file.getFileName().toString().replace(".java", ""))
                .filter(name -> name.endsWith("Test")).forEach(there::add);
        }
        TreeSet<String> told = new TreeSet<>();
        for (String line : readme) {
            Matcher row = Pattern.compile("\\| `(\\w+Test)` \\|.*").matcher(line);
            if (row.matches()) {
                told.add(row.group(1));
            }
        }
        is("its tests " + told + " are " + there, told.equals(there));
        is("it says how they are run", readme.contains("    .ci/run") && Files.isExecutable(Path.of(".ci/run")));
    }
}
