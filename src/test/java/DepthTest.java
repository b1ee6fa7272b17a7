import java.nio.charset.StandardCharsets;
import java.nio.file.Files;
import java.nio.file.Path;
import java.util.ArrayList;
import java.util.HashSet;
import java.util.LinkedHashMap;
import java.util.List;
import java.util.Map;
import java.util.Set;
import java.util.regex.Matcher;
import java.util.regex.Pattern;

/** LANGUAGE.md, rules 8 and 11, read off the source: who calls whom, how deep, and how long each method is. */
public final class DepthTest {
    private static final int DEEPEST = 8, LONGEST = 60;
    private static final Pattern TYPE = Pattern.compile("^ *(?:public|private static) final class (\\w+) \\{$");
    private static final Pattern METHOD =
        Pattern.compile("^ *(?:public |private )?(?:static )?(?:\\w+(?:\\[\\])? )?(\\w+)\\([^;]*\\) \\{$");
    private static final Pattern CALL = Pattern.compile("(new )?(?:(\\w+)(?:\\[\\w+\\])?\\.)?\\b(\\w+)\\(");
    private static final Set<String> WORDS = Set.of("if", "for", "switch", "while", "return");
    /** What stands ahead of the dot in a call, and of which class it is. */
    private static final Map<String, String> OF = Map.ofEntries(
        Map.entry("told", "Told"), Map.entry("now", "Crowd"), Map.entry("trial", "Crowd"), Map.entry("crowd", "Crowd"),
        Map.entry("wares", "Wares"), Map.entry("trialWares", "Wares"), Map.entry("acts", "Acts"),
        Map.entry("ahead", "Crowd"), Map.entry("meters", "Meters"), Map.entry("slots", "Slots"),
        Map.entry("kept", "Crowd"), Map.entry("Math", "Math"), Map.entry("Integer", "Integer"));
    private static final Check CHECK = new Check("DepthTest");

    private final Map<String, List<String>> lines = new LinkedHashMap<>();
    private final Map<String, Integer> depths = new LinkedHashMap<>();

    public static void main(String[] args) throws Exception {
        DepthTest test = new DepthTest();
        test.read(Files.readAllLines(Path.of("src/main/java/LouderRoom.java"), StandardCharsets.US_ASCII));
        test.check();
        CHECK.end();
    }

    private static void holds(int rule, String what, boolean so) {
        CHECK.due(1, "LANGUAGE.md, rule " + rule + ": " + what, so ? 1 : 0, 1);
    }

    /** Each method's lines, by its class and name; constructors bear their class's name. */
    private void read(List<String> source) {
        String type = "";
        List<String> open = null;
        for (String line : source) {
            Matcher typed = TYPE.matcher(line);
            Matcher method = METHOD.matcher(line);
            if (typed.matches()) {
                type = typed.group(1);
            } else if (method.matches() && !WORDS.contains(method.group(1))) {
                open = new ArrayList<>();
                boolean first = lines.put(type + "." + method.group(1), open) == null;
                holds(11, type + "." + method.group(1) + " is there once", first);
            } else if (open != null) {
                open.add(line);
            }
            if (line.equals("    }") || line.equals("        }") && !type.equals("LouderRoom")) {
                open = null;
            }
        }
    }

    private void check() {
        holds(11, "the methods were found", lines.keySet().containsAll(Set.of(
            "LouderRoom.write", "LouderRoom.again", "Told.readDigit", "Crowd.settle", "Slots.at")));
        for (Map.Entry<String, List<String>> method : lines.entrySet()) {
            int depth = depth(method.getKey(), new HashSet<>());
            holds(11, method.getKey() + " goes " + depth + " deep", depth <= DEEPEST);
            int length = method.getValue().size() + 1;
            holds(11, method.getKey() + " has " + length + " lines", length <= LONGEST);
        }
    }

    /** How many methods are open at once, this one and the library's among them. */
    private int depth(String method, Set<String> above) {
        if (depths.containsKey(method)) {
            return depths.get(method);
        }
        holds(8, method + " does not call itself, straight or not", above.add(method));
        int deepest = 0;
        if (lines.containsKey(method) && above.size() < 100) {
            for (String line : lines.get(method)) {
                for (String called : calledIn(line, method)) {
                    deepest = Math.max(deepest, depth(called, above));
                }
            }
        }
        above.remove(method);
        depths.put(method, deepest + 1);
        return deepest + 1;
    }

    private List<String> calledIn(String line, String caller) {
        List<String> called = new ArrayList<>();
        Matcher call = CALL.matcher(line.replaceAll("//.*|/\\*.*", ""));
        while (call.find()) {
            String name = call.group(3);
            if (!WORDS.contains(name)) {
                called.add(typeOf(call, caller) + "." + name);
            }
        }
        return called;
    }

    private String typeOf(Matcher call, String caller) {
        String name = call.group(3);
        if (call.group(1) != null) {
            return name;
        }
        if (call.group(2) != null) {
            String type = OF.get(call.group(2));
            holds(11, "it is known of which class " + call.group() + ".. in " + caller + " is", type != null);
            return type;
        }
        String own = caller.substring(0, caller.indexOf('.'));
        String type = lines.containsKey(own + "." + name) ? own : "LouderRoom";
        holds(11, name + " called in " + caller + " is there", lines.containsKey(type + "." + name));
        return type;
    }
}
