import java.math.BigInteger;
import java.util.ArrayDeque;
import java.util.ArrayList;
import java.util.HashSet;
import java.util.List;
import java.util.Set;
import java.util.regex.Matcher;
import java.util.regex.Pattern;

/** The document once more, as plainly as Java's library allows: what LouderRoom is held against. */
final class Model {
    private static final Pattern TEXT = Pattern.compile("R[0-9][0-9](G[0-4][0-9][0-9][1-9][1-9][0-9]|S[0-9][1-9])*");

    /** One RING; never changed. */
    record Ring(int kind, int x, int y, int people, int voice, int age) {
        Ring voiced(int v) {
            return new Ring(kind, x, y, people, v, age);
        }

        Ring peopled(int n) {
            return new Ring(kind, x, y, n, voice, age);
        }

        int loud() {
            return people == 1 ? 0 : (int) Math.pow(2, voice);
        }
    }

    /** RINGS, EATS, MUSIC, FOLLOWS; never changed. */
    record State(List<Ring> rings, int eats, int music, boolean follows) {
        int ringsLoud() {
            return rings.stream().mapToInt(Ring::loud).sum();
        }

        int musicLoud() {
            return music == 0 ? 0 : (int) Math.pow(2, music);
        }

        int echo() {
            return (ringsLoud() + musicLoud()) * (10 - eats) / 10;
        }

        int from(Ring ring, int x, int y) {
            int square = (ring.x - x) * (ring.x - x) + (ring.y - y) * (ring.y - y);
            return square == 0 ? 0 : 4 * ring.loud() / square;
        }

        int noise(int x, int y) {
            return echo() + rings.stream().mapToInt(r -> from(r, x, y)).sum();
        }

        boolean heard(Ring ring, int sound) {
            return ring.people == 1 || ring.kind == 4 || 10 * sound >= noise(ring.x, ring.y) * (10 + ring.age);
        }

        static int sound(Ring ring) {
            int by = ring.kind != 3 ? ring.people : ring.people <= 3 ? 1 : ring.people - 2;
            return 8 * ring.loud() / by;
        }

        boolean hears(Ring ring) {
            return heard(ring, sound(ring));
        }

        boolean allHear() {
            return rings.stream().allMatch(this::hears);
        }

        State voiced(int v) {
            return new State(rings.stream().map(r -> r.voiced(v)).toList(), eats, music, follows);
        }

        State first(int k) {
            return new State(rings.subList(0, k), eats, music, follows);
        }

        State with(List<Ring> others) {
            return new State(List.copyOf(others), eats, music, follows);
        }

        State minute() {
            List<Ring> next = new ArrayList<>();
            for (Ring r : rings) {
                int v = r.voice;
                if (r.people > 1 && r.kind != 4) {
                    if (hears(r)) {
                        v = v > 1 && heard(r, sound(r.voiced(v - 1))) ? v - 1 : v;
                    } else if (r.kind == 2) {
                        v = v > 7 ? 9 : v + 2;
                    } else if (r.kind != 1 || !heard(r, 2 * sound(r))) {
                        v = v == 9 ? 9 : v + 1;
                    }
                }
                next.add(r.voiced(v));
            }
            int m = music + (follows ? Integer.signum(echo() - musicLoud()) : 0);
            return new State(List.copyOf(next), eats, Math.max(0, Math.min(9, m)), follows);
        }

        /** MINUTES till REST, -9: none. */
        int restMinutes() {
            State s = this;
            for (int t = 0; t <= 40; t++) {
                State after = s.minute();
                if (after.equals(s)) {
                    return t;
                }
                s = after;
            }
            return -9;
        }

        State behind(int minutes) {
            State s = this;
            for (int t = 0; t < minutes; t++) {
                s = s.minute();
            }
            return s;
        }

        boolean restsWell() {
            int t = restMinutes();
            return t >= 0 && behind(t).allHear();
        }
    }

    private String text = "";
    private State now = new State(List.of(), 0, 0, false);
    private List<int[]> stuffs = List.of();
    private final ArrayDeque<State> acts = new ArrayDeque<>();
    private final List<int[]> meters = new ArrayList<>();
    private final State[] slots = new State[2];

    private boolean none(int ring) {
        return ring < 0 || ring >= now.rings.size();
    }

    private static boolean out(int value, int least, int most) {
        return value < least || value > most;
    }

    int write(int n, long v) {
        if (out(n, 1, 8)) {
            return -2;
        }
        if (text.length() + n > 80) {
            return -4;
        }
        StringBuilder more = new StringBuilder();
        for (int i = 0; i < n; i++) {
            more.insert(0, (char) (v & 255));
            v >>= 8;
        }
        text += more;
        return text.length();
    }

    int wipe() {
        int was = text.length();
        text = "";
        return was;
    }

    private static boolean canBe(String start) {
        Matcher m = TEXT.matcher(start);
        if (!m.matches() && !m.hitEnd()) {
            return false;
        }
        Set<String> cells = new HashSet<>();
        int rings = 0;
        int wares = 0;
        int at = 3;
        while (at < start.length()) {
            boolean ring = start.charAt(at) == 'G';
            rings += ring ? 1 : 0;
            wares += ring ? 0 : 1;
            if (rings > 8 || wares > 5 || ring && at + 4 <= start.length() && !cells.add(start.substring(at + 2, at + 4))) {
                return false;
            }
            at += ring ? 7 : 3;
        }
        return true;
    }

    int fault() {
        for (int i = 0; i < text.length(); i++) {
            if (!canBe(text.substring(0, i + 1))) {
                return i;
            }
        }
        return TEXT.matcher(text).matches() ? -9 : text.length();
    }

    int room() {
        if (fault() != -9) {
            return -3;
        }
        List<Ring> rings = new ArrayList<>();
        List<int[]> wares = new ArrayList<>();
        for (int at = 3; at < text.length(); at += text.charAt(at) == 'G' ? 7 : 3) {
            if (text.charAt(at) == 'G') {
                rings.add(new Ring(d(at + 1), d(at + 2), d(at + 3), d(at + 4), d(at + 5), d(at + 6)));
            } else {
                wares.add(new int[] {d(at + 1), d(at + 2)});
            }
        }
        now = new State(List.copyOf(rings), d(1), d(2), false);
        stuffs = wares;
        acts.clear();
        slots[0] = null;
        slots[1] = null;
        return rings.size();
    }

    private int d(int at) {
        return text.charAt(at) - '0';
    }

    int about(int what) {
        int hear = 0;
        for (int i = 0; i < now.rings.size(); i++) {
            hear += now.hears(now.rings.get(i)) ? (int) Math.pow(2, i) : 0;
        }
        int[] all = {now.rings.size(), now.rings.stream().mapToInt(Ring::people).sum(), now.eats, now.music, now.echo(),
            now.ringsLoud(), hear, stuffs.size(), acts.size(), meters.size(), text.length()};
        return out(what, 0, 10) ? -2 : all[what];
    }

    int ring(int ring, int what) {
        if (none(ring)) {
            return -1;
        }
        Ring r = now.rings.get(ring);
        int[] all = {r.kind, 10 * r.y + r.x, r.people, r.voice, r.age, r.loud(), State.sound(r), now.noise(r.x, r.y),
            now.hears(r) ? 1 : 0};
        return out(what, 0, 8) ? -2 : all[what];
    }

    int stuff(int stuff, int what) {
        return out(stuff, 0, stuffs.size() - 1) ? -1 : out(what, 0, 1) ? -2 : stuffs.get(stuff)[what];
    }

    int noise(int x, int y) {
        return out(x, 0, 9) || out(y, 0, 9) ? -2 : now.noise(x, y);
    }

    int from(int ring, int x, int y) {
        return none(ring) ? -1 : out(x, 0, 9) || out(y, 0, 9) ? -2 : now.from(now.rings.get(ring), x, y);
    }

    private void put(int ring, Ring other) {
        List<Ring> rings = new ArrayList<>(now.rings);
        rings.set(ring, other);
        now = now.with(rings);
    }

    private void drop(int ring) {
        List<Ring> rings = new ArrayList<>(now.rings);
        rings.remove(ring);
        now = now.with(rings);
    }

    int voice(int ring, int v) {
        if (none(ring) || out(v, 1, 9)) {
            return none(ring) ? -1 : -2;
        }
        int was = now.rings.get(ring).voice;
        put(ring, now.rings.get(ring).voiced(v));
        return was;
    }

    int music(int m, boolean follows) {
        if (out(m, 0, 9)) {
            return -2;
        }
        int was = now.music;
        now = new State(now.rings, now.eats, m, follows);
        return was;
    }

    int eats(int e) {
        if (out(e, 0, 9)) {
            return -2;
        }
        int was = now.eats;
        now = new State(now.rings, e, now.music, now.follows);
        return was;
    }

    private void act() {
        acts.addLast(now);
        if (acts.size() > 10) {
            acts.removeFirst();
        }
    }

    private static int unlike(State a, State b) {
        int count = 0;
        for (int i = 0; i < a.rings.size(); i++) {
            count += a.rings.get(i).voice == b.rings.get(i).voice ? 0 : 1;
        }
        return count;
    }

    int minute() {
        act();
        now = now.minute();
        return unlike(acts.getLast(), now);
    }

    int hush() {
        act();
        now = now.voiced(1);
        return unlike(acts.getLast(), now);
    }

    private boolean taken(int cell) {
        return now.rings.stream().anyMatch(r -> 10 * r.y + r.x == cell);
    }

    int breaks(int ring) {
        if (none(ring)) {
            return -1;
        }
        Ring r = now.rings.get(ring);
        if (r.people < 4 || now.rings.size() == 8) {
            return r.people < 4 ? -3 : -4;
        }
        act();
        int cell = 0;
        while (taken(cell)) {
            cell++;
        }
        put(ring, r.peopled(r.people / 2));
        List<Ring> rings = new ArrayList<>(now.rings);
        rings.add(new Ring(r.kind, cell % 10, cell / 10, (r.people + 1) / 2, r.voice, r.age));
        now = now.with(rings);
        return rings.size() - 1;
    }

    int joins(int ring, int other) {
        if (none(ring) || none(other)) {
            return -1;
        }
        int people = now.rings.get(ring).people + now.rings.get(other).people;
        if (ring == other || people > 9) {
            return ring == other ? -2 : -4;
        }
        act();
        put(ring, now.rings.get(ring).peopled(people));
        drop(other);
        return people;
    }

    int home(int ring) {
        if (none(ring)) {
            return -1;
        }
        act();
        drop(ring);
        return now.rings.size();
    }

    int undo() {
        if (acts.isEmpty()) {
            return -3;
        }
        State was = acts.removeLast();
        now = new State(was.rings, now.eats, was.music, now.follows);
        return acts.size();
    }

    int rest(int from, boolean minutes) {
        if (out(from, 0, 2)) {
            return -2;
        }
        State start = from == 0 ? now : now.voiced(from == 1 ? 1 : 9);
        int t = start.restMinutes();
        return t < 0 || minutes ? t : start.behind(t).ringsLoud();
    }

    int tooMany() {
        for (int k = 1; k <= now.rings.size(); k++) {
            if (!now.first(k).voiced(1).restsWell()) {
                return k;
            }
        }
        return -9;
    }

    int lasts() {
        for (int t = 0; t <= 40; t++) {
            if (now.voiced(1).behind(t).ringsLoud() >= now.ringsLoud()) {
                return t;
            }
        }
        return -9;
    }

    int stuffs(boolean which) {
        List<int[]> good = new ArrayList<>();
        for (int set = 0; set < Math.pow(2, stuffs.size()); set++) {
            int cost = 0;
            int eats = now.eats;
            for (int i = 0; i < stuffs.size(); i++) {
                if (Integer.toBinaryString(32 + set).charAt(5 - i) == '1') {
                    cost += stuffs.get(i)[0];
                    eats += stuffs.get(i)[1];
                }
            }
            if (new State(now.rings, Math.min(9, eats), now.music, now.follows).restsWell()) {
                good.add(new int[] {cost, set});
            }
        }
        good.sort((a, b) -> a[0] != b[0] ? a[0] - b[0] : a[1] - b[1]);
        return good.isEmpty() ? -9 : good.get(0)[which ? 1 : 0];
    }

    int loudest() {
        int best = -9;
        for (int m = 0; m <= 9; m++) {
            best = new State(now.rings, now.eats, m, false).restsWell() ? m : best;
        }
        return best;
    }

    int softer() {
        int best = -9;
        for (int v = 9; v >= 1; v--) {
            best = now.voiced(v).allHear() ? v : best;
        }
        return best;
    }

    int overhears(int ring) {
        if (none(ring)) {
            return -1;
        }
        Ring r = now.rings.get(ring);
        int heard = 0;
        for (int i = 0; i < now.rings.size(); i++) {
            int part = now.from(now.rings.get(i), r.x, r.y);
            heard += i != ring && part > 0 && 2 * part >= now.noise(r.x, r.y) ? (int) Math.pow(2, i) : 0;
        }
        return heard;
    }

    int quietest() {
        int best = -1;
        for (int cell = 99; cell >= 0; cell--) {
            if (!taken(cell) && (best < 0 || now.noise(cell % 10, cell / 10) <= now.noise(best % 10, best / 10))) {
                best = cell;
            }
        }
        return best;
    }

    private List<Integer> bestCells;
    private int bestSquare;

    private void choose(List<Integer> chosen, int n, boolean column, int line, int least) {
        if (chosen.size() == n) {
            if (least > bestSquare) {
                bestSquare = least;
                bestCells = new ArrayList<>(chosen);
            }
            return;
        }
        for (int place = 0; place < 10; place++) {
            int x = column ? line : place;
            int y = column ? place : line;
            int cell = 10 * y + x;
            if (!taken(cell) && (chosen.isEmpty() || cell > chosen.get(chosen.size() - 1))) {
                int square = least;
                for (Ring r : now.rings) {
                    square = Math.min(square, (r.x - x) * (r.x - x) + (r.y - y) * (r.y - y));
                }
                for (int other : chosen) {
                    int apart = column ? (cell - other) / 10 : cell - other;
                    square = Math.min(square, apart * apart);
                }
                chosen.add(cell);
                choose(chosen, n, column, line, square);
                chosen.remove(chosen.size() - 1);
            }
        }
    }

    int tables(int n, boolean column, int line) {
        if (out(n, 1, 4) || out(line, 0, 9)) {
            return -2;
        }
        bestCells = List.of();
        bestSquare = -9;
        choose(new ArrayList<>(), n, column, line, 1000);
        return bestSquare;
    }

    int tableAt(int n, boolean column, int line, int i) {
        if (tables(n, column, line) == -2) {
            return -2;
        }
        return out(i, 0, bestCells.size() - 1) ? -9 : bestCells.get(i);
    }

    /** A silent RING is one of one PERSON less than a PERSON: 0 LOUD, told here by a RING of one PERSON. */
    private long heardOf(int ring, int next, List<Ring> told, int x) {
        if (next == now.rings.size()) {
            return now.with(told).hears(now.rings.get(ring)) ? 1 : 0;
        }
        List<Ring> speaks = new ArrayList<>(told);
        speaks.add(now.rings.get(next));
        if (next == ring) {
            return heardOf(ring, next + 1, speaks, x);
        }
        List<Ring> still = new ArrayList<>(told);
        still.add(now.rings.get(next).peopled(1));
        return x * heardOf(ring, next + 1, speaks, x) + (10 - x) * heardOf(ring, next + 1, still, x);
    }

    long chance(int ring, int x, boolean upper) {
        if (none(ring) || out(x, 0, 10)) {
            return none(ring) ? -1 : -2;
        }
        BigInteger heard = BigInteger.valueOf(heardOf(ring, 0, List.of(), x));
        BigInteger all = BigInteger.TEN.pow(now.rings.size() - 1);
        return (upper ? heard : all).divide(heard.gcd(all)).longValue();
    }

    int meter(int minute, int echo) {
        if (out(minute, 0, 40) || out(echo, 0, 9999)) {
            return -2;
        }
        if (meters.size() == 6) {
            return -4;
        }
        meters.add(new int[] {minute, echo});
        return meters.size();
    }

    int unmeter() {
        int was = meters.size();
        meters.clear();
        return was;
    }

    int came() {
        int may = 0;
        for (int k = 0; k <= now.rings.size(); k++) {
            State quiet = now.first(k).voiced(1);
            may += meters.stream().allMatch(m -> Math.abs(quiet.behind(m[0]).echo() - m[1]) <= 3) ? (int) Math.pow(2, k) : 0;
        }
        return may;
    }

    int keep(int slot) {
        if (out(slot, 0, 1)) {
            return -1;
        }
        slots[slot] = now;
        return now.rings.size();
    }

    int again(int slot) {
        if (out(slot, 0, 1) || slots[slot] == null) {
            return out(slot, 0, 1) ? -1 : -3;
        }
        now = slots[slot];
        acts.clear();
        return now.rings.size();
    }
}
