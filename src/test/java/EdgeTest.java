import java.lang.reflect.Method;
import java.lang.reflect.Modifier;
import java.util.ArrayList;
import java.util.Arrays;
import java.util.List;

/**
 * All promises: each call with the numbers just inside and just outside of its bounds, in rooms that are empty, usual
 * and full, held against the Model; and behind it all that can be asked, so that what is refused changes nothing.
 */
public final class EdgeTest {
    private static final int MIN = Integer.MIN_VALUE, MAX = Integer.MAX_VALUE;
    private static final int[] RINGS = {MIN, -1, 0, 1, 2, 6, 7, 8, MAX};
    private static final int[] PLACES = {-1, 0, 9, 10};
    private static final int[] SLOTS = {MIN, -1, 0, 1, 2, MAX};
    private static final boolean[] EITHER = {false, true};
    private static final Check CHECK = new Check("EdgeTest");

    /** A call by its name, on an object of the class or on the Model. */
    private record Call(int promise, String name, Object... arguments) {
        long on(Object x) throws Exception {
            for (Method method : x.getClass().getDeclaredMethods()) {
                if (method.getName().equals(name) && method.getParameterCount() == arguments.length
                    && !Modifier.isPrivate(method.getModifiers())) {
                    method.setAccessible(true);
                    return ((Number) method.invoke(x, arguments)).longValue();
                }
            }
            throw new IllegalStateException(name);
        }

        public String toString() {
            return name + Arrays.toString(arguments);
        }
    }

    private final List<Call> before;

    private EdgeTest(List<Call> before) {
        this.before = before;
    }

    public static void main(String[] args) throws Exception {
        List<Call> asked = new ArrayList<>();
        texts(asked);
        looks(asked);
        otherwise(asked);
        acts(asked);
        rests(asked);
        apart(asked);
        metersAndSlots(asked);
        for (List<Call> before : List.of(nobody(), usual(), full(), lone(), half())) {
            EdgeTest test = new EdgeTest(before);
            for (Call call : asked) {
                test.ask(call, EdgeTest::undone);
                test.ask(call, EdgeTest::goneOn);
            }
        }
        CHECK.end();
    }

    private interface Way {
        List<Call> calls();
    }

    private void ask(Call call, Way way) throws Exception {
        LouderRoom x = new LouderRoom();
        Model model = new Model();
        int calls = 0;
        List<Call> all = new ArrayList<>(before);
        all.add(call);
        all.addAll(way.calls());
        for (Call next : all) {
            CHECK.due(next.promise, (calls > before.size() ? "behind " + call + ": " : "") + next, next.on(x), next.on(model));
            calls++;
        }
        CHECK.due(0, "512 calls at most", calls <= 512 ? 1 : 0, 1);
    }

    private static void add(List<Call> calls, int promise, String name, Object... arguments) {
        calls.add(new Call(promise, name, arguments));
    }

    private static void seen(List<Call> calls) {
        for (int what = 0; what <= 10; what++) {
            add(calls, 6, "about", what);
        }
        for (int ring = 0; ring < 8; ring++) {
            for (int what = 1; what <= 3; what++) {
                add(calls, 7, "ring", ring, what);
            }
        }
    }

    private static List<Call> undone() {
        List<Call> calls = new ArrayList<>();
        seen(calls);
        add(calls, 4, "fault");
        for (int i = 0; i <= 10; i++) {
            add(calls, 19, "undo");
            add(calls, 6, "about", 0);
            add(calls, 6, "about", 1);
            add(calls, 6, "about", 3);
            add(calls, 6, "about", 5);
        }
        add(calls, 33, "came");
        add(calls, 32, "unmeter");
        return calls;
    }

    private static List<Call> goneOn() {
        List<Call> calls = new ArrayList<>();
        add(calls, 14, "minute");
        add(calls, 6, "about", 3);
        for (int slot = 0; slot < 2; slot++) {
            add(calls, 35, "again", slot);
            seen(calls);
            add(calls, 14, "minute");
            add(calls, 6, "about", 3);
        }
        return calls;
    }

    private static void told(List<Call> calls, String text) {
        for (int at = 0; at < text.length(); at += 8) {
            String part = text.substring(at, Math.min(text.length(), at + 8));
            add(calls, 2, "write", part.length(), Rooms.packed(part));
        }
    }

    private static List<Call> nobody() {
        return new ArrayList<>();
    }

    private static List<Call> usual() {
        List<Call> calls = new ArrayList<>();
        told(calls, Rooms.SOME);
        add(calls, 5, "room");
        add(calls, 12, "music", 4, true);
        add(calls, 14, "minute");
        add(calls, 34, "keep", 1);
        add(calls, 31, "meter", 2, 30);
        add(calls, 15, "breaks", 2);
        add(calls, 14, "minute");
        return calls;
    }

    /** THE TEXT of 80 bytes, 8 RINGS, 5 STUFFS, 10 ACTS, 6 METERS, both SLOTS. */
    private static List<Call> full() {
        List<Call> calls = new ArrayList<>();
        told(calls, Rooms.LONGEST);
        add(calls, 5, "room");
        told(calls, "xxxxxx");
        add(calls, 34, "keep", 0);
        add(calls, 12, "music", 2, true);
        for (int i = 0; i < 6; i++) {
            add(calls, 31, "meter", 8 * i, 16 * i);
            add(calls, 14, "minute");
            add(calls, 11, "voice", i, 9 - i);
        }
        for (int i = 0; i < 5; i++) {
            add(calls, i % 2 == 0 ? 18 : 14, i % 2 == 0 ? "hush" : "minute");
        }
        add(calls, 34, "keep", 1);
        return calls;
    }

    /** Seven RINGS, one of them of nine; THE TEXT is one byte short of 80. */
    private static List<Call> lone() {
        List<Call> calls = new ArrayList<>();
        told(calls, Rooms.LONGEST.substring(0, 52) + "S11S22S33S44");
        add(calls, 5, "room");
        told(calls, "SSSSSSSSSSSSSSS");
        for (int i = 0; i < 9; i++) {
            add(calls, 14, "minute");
        }
        for (int i = 0; i < 5; i++) {
            add(calls, 31, "meter", i, 2 << i);
        }
        return calls;
    }

    /** All went HOME but one. */
    private static List<Call> half() {
        List<Call> calls = new ArrayList<>();
        told(calls, Rooms.LONGEST);
        add(calls, 5, "room");
        add(calls, 34, "keep", 0);
        for (int i = 7; i >= 1; i--) {
            add(calls, 17, "home", i == 3 ? 0 : i - 1);
        }
        return calls;
    }

    private static void texts(List<Call> calls) {
        for (int n : new int[] {MIN, -1, 0, 1, 2, 7, 8, 9, MAX}) {
            for (long v : new long[] {0, -1, Long.MIN_VALUE, Rooms.packed("R00S11S2")}) {
                add(calls, 2, "write", n, v);
            }
        }
        add(calls, 3, "wipe");
        add(calls, 4, "fault");
        add(calls, 5, "room");
    }

    private static void looks(List<Call> calls) {
        for (int what : new int[] {MIN, -1, 0, 1, 2, 3, 4, 5, 6, 7, 8, 9, 10, 11, MAX}) {
            add(calls, 6, "about", what);
        }
        for (int ring : RINGS) {
            for (int what : new int[] {MIN, -1, 0, 4, 5, 6, 7, 8, 9, MAX}) {
                add(calls, 7, "ring", ring, what);
            }
            for (int x : PLACES) {
                for (int y : PLACES) {
                    add(calls, 10, "from", ring, x, y);
                }
            }
        }
        for (int stuff : new int[] {MIN, -1, 0, 1, 4, 5, MAX}) {
            for (int what : new int[] {MIN, -1, 0, 1, 2, MAX}) {
                add(calls, 8, "stuff", stuff, what);
            }
        }
        for (int x : new int[] {MIN, -1, 0, 9, 10, MAX}) {
            for (int y : new int[] {MIN, -1, 0, 9, 10, MAX}) {
                add(calls, 9, "noise", x, y);
            }
        }
    }

    private static void otherwise(List<Call> calls) {
        for (int ring : RINGS) {
            for (int v : new int[] {MIN, -1, 0, 1, 9, 10, MAX}) {
                add(calls, 11, "voice", ring, v);
            }
        }
        for (int m : new int[] {MIN, -1, 0, 9, 10, MAX}) {
            for (boolean follows : EITHER) {
                add(calls, 12, "music", m, follows);
            }
            add(calls, 13, "eats", m);
        }
    }

    private static void acts(List<Call> calls) {
        add(calls, 14, "minute");
        add(calls, 18, "hush");
        add(calls, 19, "undo");
        for (int ring : RINGS) {
            add(calls, 15, "breaks", ring);
            add(calls, 17, "home", ring);
            for (int other : RINGS) {
                add(calls, 16, "joins", ring, other);
            }
        }
    }

    private static void rests(List<Call> calls) {
        for (boolean is : EITHER) {
            for (int from : new int[] {MIN, -1, 0, 1, 2, 3, MAX}) {
                add(calls, 20, "rest", from, is);
            }
            add(calls, 23, "stuffs", is);
        }
        add(calls, 21, "tooMany");
        add(calls, 22, "lasts");
        add(calls, 24, "loudest");
        add(calls, 25, "softer");
    }

    private static void apart(List<Call> calls) {
        add(calls, 27, "quietest");
        for (int ring : RINGS) {
            add(calls, 26, "overhears", ring);
            for (int x : new int[] {MIN, -1, 0, 5, 10, 11, MAX}) {
                add(calls, 30, "chance", ring, x, x > 2);
            }
        }
        for (int n : new int[] {MIN, -1, 0, 1, 2, 3, 4, 5, MAX}) {
            for (int line : new int[] {MIN, -1, 0, 9, 10, MAX}) {
                add(calls, 28, "tables", n, line < 5, line);
                add(calls, 29, "tableAt", n, line < 5, line, n - 1);
                add(calls, 29, "tableAt", n, line < 5, line, n);
                add(calls, 29, "tableAt", n, line < 5, line, -1);
            }
        }
    }

    private static void metersAndSlots(List<Call> calls) {
        for (int minute : new int[] {MIN, -1, 0, 40, 41, MAX}) {
            for (int echo : new int[] {MIN, -1, 0, 9999, 10000, MAX}) {
                add(calls, 31, "meter", minute, echo);
            }
        }
        add(calls, 32, "unmeter");
        add(calls, 33, "came");
        for (int slot : SLOTS) {
            add(calls, 34, "keep", slot);
            add(calls, 35, "again", slot);
        }
    }
}
