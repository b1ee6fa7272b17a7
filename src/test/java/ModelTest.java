/** All promises: long runs of calls, the same for every run of this test, held against the Model. */
public final class ModelTest {
    /** An object is used for 512 calls at most; telling a ROOM takes 83 of them at most. */
    private static final int RUNS = 450, CALLS = 512 - 83;
    private static final int[] WILD = {-1, 10, 11, 41, 100, Integer.MAX_VALUE, Integer.MIN_VALUE, -9, 8, 31, 32, 64};

    private final Check check;
    private final LouderRoom room = new LouderRoom();
    private final Model model = new Model();
    private long seed;
    private int calls = 0;

    private ModelTest(Check check, int run) {
        this.check = check;
        this.seed = run * 7919L + 12345;
    }

    public static void main(String[] args) {
        Check check = new Check("ModelTest");
        for (int run = 0; run < RUNS; run++) {
            ModelTest test = new ModelTest(check, run);
            test.tell();
            while (test.calls <= CALLS) {
                test.call();
            }
            check.due(0, "no more than 512 calls in run " + run, test.calls <= 512 ? 1 : 0, 1);
        }
        check.end();
    }

    private int pick(int below) {
        seed = seed * 6364136223846793005L + 1442695040888963407L;
        return (int) ((seed >>> 33) % below);
    }

    /** A number below a bound, now and then one that is wild. */
    private int some(int below) {
        return pick(25) == 0 ? WILD[pick(WILD.length)] : pick(below);
    }

    private boolean either() {
        return pick(2) == 0;
    }

    private void due(int promise, String call, long got, long want) {
        calls++;
        check.due(promise, call, got, want);
    }

    /** A text of some RINGS close together or far apart, and of some STUFFS. */
    private String text() {
        StringBuilder text = new StringBuilder("R").append(pick(10)).append(pick(3) == 0 ? pick(10) : 0);
        int parts = pick(11);
        int width = either() ? 10 : 4;
        int crowd = either() ? 9 : 5;
        for (int i = 0; i < parts; i++) {
            if (pick(4) == 0) {
                text.append('S').append(pick(10)).append(1 + pick(either() ? 9 : 3));
            } else {
                text.append('G').append(pick(5)).append(pick(width)).append(pick(width));
                text.append(1 + pick(crowd)).append(1 + pick(9)).append(either() ? 0 : pick(10));
            }
        }
        return text.toString();
    }

    private void write(String bytes) {
        for (int at = 0; at < bytes.length(); ) {
            int n = Math.min(bytes.length() - at, 1 + pick(8));
            long v = pick(2) == 0 ? 0 : pick(1 << 30);
            for (int i = 0; i < n; i++) {
                v = v << 8 | bytes.charAt(at + i);
            }
            due(2, "write(" + n + ", " + v + ")", room.write(n, v), model.write(n, v));
            at += n;
        }
    }

    /** A text without a FAULT, if one comes soon. */
    private String roomText() {
        String text = text();
        for (int i = 0; i < 20 && isFaulty(text); i++) {
            text = text();
        }
        return text;
    }

    private static boolean isFaulty(String text) {
        Model other = new Model();
        for (int i = 0; i < text.length(); i++) {
            other.write(1, text.charAt(i));
        }
        return other.fault() != -9;
    }

    private void tell() {
        due(3, "wipe()", room.wipe(), model.wipe());
        write(roomText());
        due(4, "fault()", room.fault(), model.fault());
        due(5, "room()", room.room(), model.room());
    }

    private void spoil() {
        due(3, "wipe()", room.wipe(), model.wipe());
        StringBuilder text = new StringBuilder(text());
        for (int i = pick(3); i >= 0; i--) {
            text.setCharAt(pick(text.length()), "0123456789RGS:/x\u00ff\u0000".charAt(pick(18)));
        }
        text.setLength(pick(4) == 0 ? pick(text.length()) : text.length());
        write(text.toString());
        due(4, "fault() of " + text, room.fault(), model.fault());
        due(5, "room() of " + text, room.room(), model.room());
    }

    private void call() {
        int group = pick(20);
        if (group == 0) {
            texts();
        } else if (group < 8) {
            looks();
        } else if (group < 12) {
            acts();
        } else if (group < 16) {
            rests();
        } else {
            apart();
        }
    }

    private void texts() {
        switch (pick(8)) {
            case 0 -> tell();
            case 1, 2 -> spoil();
            case 3 -> {
                int n = some(9);
                long v = (long) some(1 << 20) << pick(40);
                due(2, "write(" + n + ", " + v + ")", room.write(n, v), model.write(n, v));
            }
            case 4 -> due(3, "wipe()", room.wipe(), model.wipe());
            case 5 -> due(5, "room()", room.room(), model.room());
            default -> due(4, "fault()", room.fault(), model.fault());
        }
    }

    private void looks() {
        int a = some(8);
        int b = some(9);
        int c = some(10);
        boolean is = either();
        switch (pick(9)) {
            case 0, 1 -> due(6, "about(" + c + ")", room.about(c), model.about(c));
            case 2, 3 -> due(7, "ring(" + a + ", " + b + ")", room.ring(a, b), model.ring(a, b));
            case 4 -> due(8, "stuff(" + a + ", " + b % 3 + ")", room.stuff(a, b % 3), model.stuff(a, b % 3));
            case 5 -> due(9, "noise(" + b + ", " + c + ")", room.noise(b, c), model.noise(b, c));
            case 6 -> due(10, "from(" + a + ", " + b + ", " + c + ")", room.from(a, b, c), model.from(a, b, c));
            case 7 -> due(11, "voice(" + a + ", " + c + ")", room.voice(a, c), model.voice(a, c));
            default -> {
                if (either()) {
                    due(12, "music(" + c + ", " + is + ")", room.music(c, is), model.music(c, is));
                } else {
                    due(13, "eats(" + c + ")", room.eats(c), model.eats(c));
                }
            }
        }
    }

    private void acts() {
        int a = some(8);
        int b = some(8);
        switch (pick(12)) {
            case 0, 1 -> due(15, "breaks(" + a + ")", room.breaks(a), model.breaks(a));
            case 2 -> due(16, "joins(" + a + ", " + b + ")", room.joins(a, b), model.joins(a, b));
            case 3 -> due(17, "home(" + a + ")", room.home(a), model.home(a));
            case 4 -> due(18, "hush()", room.hush(), model.hush());
            case 5, 6, 7 -> due(19, "undo()", room.undo(), model.undo());
            case 8 -> due(34, "keep(" + a % 2 + ")", room.keep(a % 2), model.keep(a % 2));
            case 9 -> due(35, "again(" + a % 3 + ")", room.again(a % 3), model.again(a % 3));
            default -> due(14, "minute()", room.minute(), model.minute());
        }
    }

    private void rests() {
        int a = some(3);
        boolean is = either();
        switch (pick(8)) {
            case 0, 1 -> due(20, "rest(" + a + ", " + is + ")", room.rest(a, is), model.rest(a, is));
            case 2 -> due(21, "tooMany()", room.tooMany(), model.tooMany());
            case 3 -> due(22, "lasts()", room.lasts(), model.lasts());
            case 4, 5 -> due(23, "stuffs(" + is + ")", room.stuffs(is), model.stuffs(is));
            case 6 -> due(24, "loudest()", room.loudest(), model.loudest());
            default -> due(25, "softer()", room.softer(), model.softer());
        }
    }

    private void apart() {
        int a = some(8);
        int n = some(5);
        int line = some(10);
        boolean is = either();
        switch (pick(8)) {
            case 0 -> due(26, "overhears(" + a + ")", room.overhears(a), model.overhears(a));
            case 1 -> due(27, "quietest()", room.quietest(), model.quietest());
            case 2 -> due(28, "tables(" + n + ", " + is + ", " + line + ")",
                room.tables(n, is, line), model.tables(n, is, line));
            case 3 -> due(29, "tableAt(" + n + ", " + is + ", " + line + ", " + a + ")",
                room.tableAt(n, is, line, a), model.tableAt(n, is, line, a));
            case 4 -> due(30, "chance(" + a + ", " + line + ", " + is + ")",
                room.chance(a, line, is), model.chance(a, line, is));
            default -> meters();
        }
    }

    /** A METER that some of RINGS could have made, or about so. */
    private void meters() {
        int minute = either() ? some(41) : pick(4);
        int echo = Math.max(either() ? 0 : -1, model.about(4) + pick(9) - 4);
        switch (pick(4)) {
            case 0 -> due(32, "unmeter()", room.unmeter(), model.unmeter());
            case 1 -> due(31, "meter(" + minute + ", " + echo + ")", room.meter(minute, echo), model.meter(minute, echo));
            default -> due(33, "came()", room.came(), model.came());
        }
    }
}
