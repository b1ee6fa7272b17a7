import java.lang.reflect.Constructor;
import java.lang.reflect.Field;
import java.lang.reflect.Method;
import java.lang.reflect.Modifier;
import java.nio.charset.StandardCharsets;
import java.nio.file.Files;
import java.nio.file.Path;
import java.util.ArrayList;
import java.util.Arrays;
import java.util.List;
import java.util.regex.Pattern;

/** The face of the class, its constants, and those rules of LANGUAGE.md that can be read off it. */
public final class FaceTest {
    private static final Check CHECK = new Check("FaceTest");
    private static final String[] METHODS = {
        "int write(int, long)", "int wipe()", "int fault()", "int room()", "int about(int)", "int ring(int, int)",
        "int stuff(int, int)", "int noise(int, int)", "int from(int, int, int)", "int voice(int, int)",
        "int music(int, boolean)", "int eats(int)", "int minute()", "int breaks(int)", "int joins(int, int)",
        "int home(int)", "int hush()", "int undo()", "int rest(int, boolean)", "int tooMany()", "int lasts()",
        "int stuffs(boolean)", "int loudest()", "int softer()", "int overhears(int)", "int quietest()",
        "int tables(int, boolean, int)", "int tableAt(int, boolean, int, int)", "long chance(int, int, boolean)",
        "int meter(int, int)", "int unmeter()", "int came()", "int keep(int)", "int again(int)"};

    public static void main(String[] args) throws Exception {
        constants();
        members();
        methods();
        classesInside();
        words();
        CHECK.end();
    }

    private static void constants() {
        CHECK.due(1, "UNKNOWN", LouderRoom.UNKNOWN, -1);
        CHECK.due(1, "BAD", LouderRoom.BAD, -2);
        CHECK.due(1, "LATE", LouderRoom.LATE, -3);
        CHECK.due(1, "FULL", LouderRoom.FULL, -4);
        CHECK.due(1, "NONE", LouderRoom.NONE, -9);
    }

    private static void is(String what, boolean holds) {
        CHECK.due(1, what, holds ? 1 : 0, 1);
    }

    private static void members() {
        is("the class is public and final", Modifier.isPublic(LouderRoom.class.getModifiers())
            && Modifier.isFinal(LouderRoom.class.getModifiers()));
        Constructor<?>[] made = LouderRoom.class.getDeclaredConstructors();
        is("one constructor", made.length == 1 && Modifier.isPublic(made[0].getModifiers()) && made[0].getParameterCount() == 0);
        List<String> seen = new ArrayList<>();
        for (Field field : LouderRoom.class.getDeclaredFields()) {
            if (!Modifier.isPrivate(field.getModifiers())) {
                seen.add(field.getName());
            }
            is(field + " is final", Modifier.isFinal(field.getModifiers()));
        }
        is("fields that are not private: " + seen, seen.equals(List.of("UNKNOWN", "BAD", "LATE", "FULL", "NONE")));
    }

    private static void methods() {
        List<String> seen = new ArrayList<>();
        for (Method method : LouderRoom.class.getDeclaredMethods()) {
            if (!Modifier.isPrivate(method.getModifiers())) {
                List<String> types = Arrays.stream(method.getParameterTypes()).map(Class::getName).toList();
                seen.add(method.getReturnType() + " " + method.getName() + "(" + String.join(", ", types) + ")");
                is(method + " is public, of objects", method.getModifiers() == Modifier.PUBLIC);
            } else {
                is(method + " bears a name of its own", !isFaceName(method.getName()));
            }
        }
        for (String method : METHODS) {
            is(method + " is there", seen.remove(method));
        }
        is("no other methods: " + seen, seen.isEmpty());
    }

    private static boolean isFaceName(String name) {
        return Arrays.stream(METHODS).anyMatch(m -> m.contains(" " + name + "("));
    }

    private static void classesInside() {
        Class<?>[] inside = LouderRoom.class.getDeclaredClasses();
        is("some twelve classes", inside.length <= 11);
        for (Class<?> type : inside) {
            is(type + " is static and not public", Modifier.isStatic(type.getModifiers())
                && !Modifier.isPublic(type.getModifiers()) && !Modifier.isProtected(type.getModifiers()));
            for (Method method : type.getDeclaredMethods()) {
                is(method + " bears a name of its own", !isFaceName(method.getName()));
                is(method + " takes seven at most", method.getParameterCount() <= 7);
            }
            for (Field field : type.getDeclaredFields()) {
                is(field + " is of no static state", !Modifier.isStatic(field.getModifiers()));
            }
        }
    }

    private static void words() throws Exception {
        String source = Files.readString(Path.of("src/main/java/LouderRoom.java"), StandardCharsets.US_ASCII);
        String code = source.replaceAll("(?s)/\\*.*?\\*/", " ").replaceAll("//[^\n]*", " ");
        String[] ruledOut = {"throw", "throws", "try", "catch", "finally", "synchronized", "assert", "import", "package",
            "instanceof", "while", "System", "Object", "Thread", "double", "float", "equals", "hashCode", "toString"};
        for (String word : ruledOut) {
            is("no " + word, !Pattern.compile("\\b" + word + "\\b").matcher(code).find());
        }
        is("no lambda and no method reference", !code.contains("->") && !code.contains("::"));
        is("ASCII alone", source.chars().allMatch(c -> c == '\n' || c >= 32 && c < 127));
    }
}
