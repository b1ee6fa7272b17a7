import java.util.ArrayList;
import java.util.List;

/** Two objects that were used alike, but that one of them had some calls more: whether they answer alike from there on. */
final class Twins {
    /** Some calls on an object. */
    interface Use {
        void on(LouderRoom x);
    }

    private final LouderRoom x;
    private final List<String> seen = new ArrayList<>();

    private Twins(LouderRoom x) {
        this.x = x;
    }

    /** Where they answer otherwise; null: nowhere. Each way of asking has objects of its own, for it changes them. */
    static String otherThan(Use before, Use more) {
        for (int way = 0; way < 3; way++) {
            List<String> one = asked(way, before, null);
            List<String> other = asked(way, before, more);
            for (int i = 0; i < Math.max(one.size(), other.size()); i++) {
                if (i >= one.size() || i >= other.size() || !one.get(i).equals(other.get(i))) {
                    return "without it " + (i < one.size() ? one.get(i) : "-") + ", with it " + (i < other.size() ? other.get(i) : "-");
                }
            }
        }
        return null;
    }

    private static List<String> asked(int way, Use before, Use more) {
        LouderRoom x = new LouderRoom();
        before.on(x);
        if (more != null) {
            more.on(x);
        }
        Twins twin = new Twins(x);
        if (way == 0) {
            twin.all();
        } else if (way == 1) {
            twin.undone();
        } else {
            twin.kept();
        }
        return twin.seen;
    }

    private void see(String call, long answer) {
        seen.add(call + " " + answer);
    }

    private void rings(int... whats) {
        int rings = x.about(0);
        see("rings", rings);
        for (int ring = 0; ring < rings; ring++) {
            for (int what : whats) {
                see("ring " + ring + " " + what, x.ring(ring, what));
            }
        }
        see("eats", x.about(2));
        see("music", x.about(3));
    }

    private void all() {
        for (int what = 0; what <= 10; what++) {
            see("about " + what, x.about(what));
        }
        rings(0, 1, 2, 3, 4);
        for (int stuff = 0; stuff < x.about(7); stuff++) {
            see("cost " + stuff, x.stuff(stuff, 0));
            see("eaten " + stuff, x.stuff(stuff, 1));
        }
        for (int from = 0; from <= 2; from++) {
            see("rest " + from, x.rest(from, true));
            see("loud " + from, x.rest(from, false));
        }
        see("came", x.came());
        see("fault", x.fault());
        see("minute", x.minute());
        see("music", x.about(3));
        see("minute", x.minute());
        rings(0, 1, 2, 3, 4);
        texts();
        see("unmeter", x.unmeter());
    }

    /** Whether THE TEXT goes on at its place. */
    private void texts() {
        see("write", x.write(3, 'S' << 16 | '1' << 8 | '1'));
        see("fault", x.fault());
        see("room", x.room());
        see("stuffs", x.about(7));
        rings(0, 1, 2, 3, 4);
        see("wipe", x.wipe());
    }

    private void undone() {
        for (int i = 0; i <= 10; i++) {
            see("undo", x.undo());
            rings(1, 2, 3);
        }
    }

    private void kept() {
        for (int slot = 0; slot < 2; slot++) {
            see("again " + slot, x.again(slot));
            rings(0, 1, 2, 3, 4);
            see("minute", x.minute());
            see("music", x.about(3));
            see("eats", x.eats(9));
        }
    }
}
