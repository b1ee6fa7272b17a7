/**
 * A room in which everybody shouts because everybody else does, told as a text.
 * Every refusal is an answer: UNKNOWN, BAD, LATE, FULL, NONE. No call makes an object:
 * all rows are made with the room and used again.
 */
public final class LouderRoom {
    public static final int UNKNOWN = -1, BAD = -2, LATE = -3, FULL = -4, NONE = -9;

    private static final int SIDE = 10, CELLS = 100;
    private static final int MOST_RINGS = 8, MOST_PEOPLE = 9, MOST_VOICE = 9, FEWEST_TO_BREAK = 4;
    private static final int EASY = 1, RAISED = 2, LEANING = 3, NODDING = 4;
    private static final int MOST_EATS = 9, MOST_MUSIC = 9, MOST_STUFFS = 5;
    private static final int MOST_BYTES = 80, MOST_WRITTEN = 8;
    private static final int MOST_ACTS = 10, MOST_METERS = 6, SLOTS = 2;
    private static final int MOST_MINUTES = 40, MOST_ECHO = 9999, ECHO_OFF = 3;
    private static final int MOST_TABLES = 4, NOTHING_NEAR = 1000;
    private static final int TENTHS = 10;

    private final Told told = new Told();
    private final Crowd now = new Crowd();
    private final Crowd trial = new Crowd();
    private final Wares wares = new Wares();
    private final Wares trialWares = new Wares();
    private final Acts acts = new Acts();
    private final Meters meters = new Meters();
    private final Slots slots = new Slots();

    public LouderRoom() {
    }

    // ---- the room

    public int write(int n, long v) {
        if (n < 1 || n > MOST_WRITTEN) {
            return BAD;
        }
        return told.append(n, v);
    }

    public int wipe() {
        return told.clear();
    }

    public int fault() {
        return told.read(trial, trialWares);
    }

    public int room() {
        if (told.read(trial, trialWares) != NONE) {
            return LATE;
        }
        now.copyFrom(trial);
        wares.copyFrom(trialWares);
        acts.clear();
        slots.clear();
        return now.rings;
    }

    public int about(int what) {
        switch (what) {
            case 0: return now.rings;
            case 1: return now.peopleAll();
            case 2: return now.eats;
            case 3: return now.music;
            case 4: return now.echoing();
            case 5: return now.loudAll();
            case 6: return now.hearing();
            case 7: return wares.count;
            case 8: return acts.count;
            case 9: return meters.count;
            case 10: return told.length;
            default: return BAD;
        }
    }

    public int ring(int ring, int what) {
        if (!now.has(ring)) {
            return UNKNOWN;
        }
        switch (what) {
            case 0: return now.kind[ring];
            case 1: return now.cell[ring];
            case 2: return now.people[ring];
            case 3: return now.voice[ring];
            case 4: return now.age[ring];
            case 5: return now.loudOf(ring);
            case 6: return now.soundBy(ring, now.loudOf(ring));
            case 7: return now.noiseAt(now.cell[ring]);
            case 8: return now.hears(ring) ? 1 : 0;
            default: return BAD;
        }
    }

    public int stuff(int stuff, int what) {
        if (stuff < 0 || stuff >= wares.count) {
            return UNKNOWN;
        }
        switch (what) {
            case 0: return wares.cost[stuff];
            case 1: return wares.eaten[stuff];
            default: return BAD;
        }
    }

    public int noise(int x, int y) {
        if (!isCell(x, y)) {
            return BAD;
        }
        return now.noiseAt(SIDE * y + x);
    }

    public int from(int ring, int x, int y) {
        if (!now.has(ring)) {
            return UNKNOWN;
        }
        if (!isCell(x, y)) {
            return BAD;
        }
        return now.fromRing(ring, SIDE * y + x);
    }

    public int voice(int ring, int v) {
        if (!now.has(ring)) {
            return UNKNOWN;
        }
        if (v < 1 || v > MOST_VOICE) {
            return BAD;
        }
        int was = now.voice[ring];
        now.voice[ring] = v;
        return was;
    }

    public int music(int m, boolean follows) {
        if (m < 0 || m > MOST_MUSIC) {
            return BAD;
        }
        int was = now.music;
        now.music = m;
        now.follows = follows;
        return was;
    }

    public int eats(int e) {
        if (e < 0 || e > MOST_EATS) {
            return BAD;
        }
        int was = now.eats;
        now.eats = e;
        return was;
    }

    // ---- acts

    public int minute() {
        acts.add(now);
        now.look();
        int changed = now.changing();
        now.take();
        return changed;
    }

    public int breaks(int ring) {
        if (!now.has(ring)) {
            return UNKNOWN;
        }
        if (now.people[ring] < FEWEST_TO_BREAK) {
            return LATE;
        }
        if (now.rings >= MOST_RINGS) {
            return FULL;
        }
        acts.add(now);
        int kept = now.people[ring] / 2;
        int others = now.people[ring] - kept;
        now.people[ring] = kept;
        now.add(now.kind[ring], now.firstFree(), others, now.voice[ring], now.age[ring]);
        return now.rings - 1;
    }

    public int joins(int ring, int other) {
        if (!now.has(ring) || !now.has(other)) {
            return UNKNOWN;
        }
        if (ring == other) {
            return BAD;
        }
        int together = now.people[ring] + now.people[other];
        if (together > MOST_PEOPLE) {
            return FULL;
        }
        acts.add(now);
        now.people[ring] = together;
        now.remove(other);
        return together;
    }

    public int home(int ring) {
        if (!now.has(ring)) {
            return UNKNOWN;
        }
        acts.add(now);
        now.remove(ring);
        return now.rings;
    }

    public int hush() {
        acts.add(now);
        return now.speakAll(1);
    }

    public int undo() {
        if (acts.count < 1) {
            return LATE;
        }
        acts.undoLast(now);
        return acts.count;
    }

    // ---- at rest

    public int rest(int from, boolean minutes) {
        if (from < 0 || from > 2) {
            return BAD;
        }
        trial.copyFrom(now);
        if (from == 1) {
            trial.speakAll(1);
        } else if (from == 2) {
            trial.speakAll(MOST_VOICE);
        }
        int passed = trial.settle();
        if (passed == NONE) {
            return NONE;
        }
        return minutes ? passed : trial.loudAll();
    }

    public int tooMany() {
        for (int k = 0; k <= now.rings; k++) {
            tryFirst(k);
            if (!trial.restsHearing()) {
                return k;
            }
        }
        return NONE;
    }

    public int lasts() {
        int before = now.loudAll();
        trial.copyFrom(now);
        trial.speakAll(1);
        for (int minute = 0; minute <= MOST_MINUTES; minute++) {
            if (trial.loudAll() >= before) {
                return minute;
            }
            trial.look();
            trial.take();
        }
        return NONE;
    }

    public int stuffs(boolean which) {
        int best = NONE;
        int least = NONE;
        for (int set = 0; set < 1 << wares.count; set++) {
            int cost = wares.costOf(set);
            if (best == NONE || cost < least) {
                trial.copyFrom(now);
                trial.eats = Math.min(MOST_EATS, now.eats + wares.eatenBy(set));
                if (trial.restsHearing()) {
                    best = set;
                    least = cost;
                }
            }
        }
        return which ? best : least;
    }

    public int loudest() {
        for (int m = MOST_MUSIC; m >= 0; m--) {
            trial.copyFrom(now);
            trial.music = m;
            trial.follows = false;
            if (trial.restsHearing()) {
                return m;
            }
        }
        return NONE;
    }

    public int softer() {
        trial.copyFrom(now);
        for (int v = 1; v <= MOST_VOICE; v++) {
            trial.speakAll(v);
            if (trial.allHear()) {
                return v;
            }
        }
        return NONE;
    }

    // ---- heard, apart

    public int overhears(int ring) {
        if (!now.has(ring)) {
            return UNKNOWN;
        }
        int there = now.cell[ring];
        int noise = now.noiseAt(there);
        int heard = 0;
        for (int i = 0; i < now.rings; i++) {
            int part = now.fromRing(i, there);
            if (part >= 1 && part >= noise - part) {
                heard |= 1 << i;
            }
        }
        return heard;
    }

    public int quietest() {
        int best = NONE;
        int least = 0;
        for (int cell = 0; cell < CELLS; cell++) {
            if (now.ringIn(cell) == NONE) {
                int noise = now.noiseAt(cell);
                if (best == NONE || noise < least) {
                    best = cell;
                    least = noise;
                }
            }
        }
        return best;
    }

    public int tables(int n, boolean column, int line) {
        if (!isTables(n, line)) {
            return BAD;
        }
        int set = bestTables(n, column, line);
        return set == 0 ? NONE : leastSquare(set, column, line);
    }

    public int tableAt(int n, boolean column, int line, int i) {
        if (!isTables(n, line)) {
            return BAD;
        }
        int set = bestTables(n, column, line);
        int seen = 0;
        for (int place = 0; place < SIDE; place++) {
            if (isIn(set, place)) {
                if (seen == i) {
                    return cellInLine(column, line, place);
                }
                seen++;
            }
        }
        return NONE;
    }

    public long chance(int ring, int x, boolean upper) {
        if (!now.has(ring)) {
            return UNKNOWN;
        }
        if (x < 0 || x > TENTHS) {
            return BAD;
        }
        long heard = 0;
        long all = 0;
        trial.copyFrom(now);
        for (int silent = 0; silent < 1 << now.rings; silent++) {
            if ((silent >> ring & 1) == 0) {
                trial.silent = silent;
                long weight = weightOf(silent, ring, x);
                all += weight;
                heard += trial.hears(ring) ? weight : 0;
            }
        }
        long common = Math.max(1, commonDivisor(all, heard));
        return upper ? heard / common : all / common;
    }

    // ---- meters

    public int meter(int minute, int echo) {
        if (minute < 0 || minute > MOST_MINUTES || echo < 0 || echo > MOST_ECHO) {
            return BAD;
        }
        return meters.add(minute, echo);
    }

    public int unmeter() {
        return meters.clear();
    }

    public int came() {
        int may = 0;
        for (int k = 0; k <= now.rings; k++) {
            tryFirst(k);
            if (trialFitsMeters()) {
                may |= 1 << k;
            }
        }
        return may;
    }

    // ---- slots

    public int keep(int slot) {
        if (slot < 0 || slot >= SLOTS) {
            return UNKNOWN;
        }
        slots.put(slot, now);
        return now.rings;
    }

    public int again(int slot) {
        if (slot < 0 || slot >= SLOTS) {
            return UNKNOWN;
        }
        if (!slots.isKept(slot)) {
            return LATE;
        }
        now.copyFrom(slots.at(slot));
        acts.clear();
        return now.rings;
    }

    // ---- helpers

    private static boolean isCell(int x, int y) {
        return x >= 0 && x < SIDE && y >= 0 && y < SIDE;
    }

    private static int squareApart(int cell, int other) {
        int x = cell % SIDE - other % SIDE;
        int y = cell / SIDE - other / SIDE;
        return x * x + y * y;
    }

    /** The trial is RINGS 0 .. k - 1 alone, QUIET. */
    private void tryFirst(int k) {
        trial.copyFrom(now);
        trial.rings = Math.min(k, now.rings);
        trial.speakAll(1);
    }

    private boolean trialFitsMeters() {
        for (int minute = 0; minute <= MOST_MINUTES; minute++) {
            if (!meters.fit(minute, trial.echoing())) {
                return false;
            }
            trial.look();
            trial.take();
        }
        return true;
    }

    private static boolean isTables(int n, int line) {
        return n >= 1 && n <= MOST_TABLES && line >= 0 && line < SIDE;
    }

    private static int cellInLine(boolean column, int line, int place) {
        return column ? SIDE * place + line : SIDE * line + place;
    }

    /** The first place of a line is the highest bit of a set: so the first set by CELLS is the highest number. */
    private static boolean isIn(int set, int place) {
        return (set >> (SIDE - 1 - place) & 1) == 1;
    }

    /** The set of TABLES; 0: there are not so many CELLS. A set with a RING in it has the square 0 and never wins. */
    private int bestTables(int n, boolean column, int line) {
        int best = 0;
        int most = 0;
        for (int set = (1 << SIDE) - 1; set > 0; set--) {
            if (Integer.bitCount(set) == n) {
                int square = leastSquare(set, column, line);
                if (square > most) {
                    best = set;
                    most = square;
                }
            }
        }
        return best;
    }

    private int leastSquare(int set, boolean column, int line) {
        int least = NOTHING_NEAR;
        for (int place = 0; place < SIDE; place++) {
            if (isIn(set, place)) {
                least = Math.min(least, now.squareToRings(cellInLine(column, line, place)));
                for (int other = place + 1; other < SIDE; other++) {
                    if (isIn(set, other)) {
                        least = Math.min(least, (other - place) * (other - place));
                    }
                }
            }
        }
        return least;
    }

    /** How many of all the ways have just these silent, when each other than the ring speaks by x tenths. */
    private long weightOf(int silent, int ring, int x) {
        long weight = 1;
        for (int i = 0; i < now.rings; i++) {
            if (i != ring) {
                weight *= (silent >> i & 1) == 1 ? TENTHS - x : x;
            }
        }
        return weight;
    }

    private static long commonDivisor(long a, long b) {
        long high = a;
        long low = b;
        for (int step = 0; step < 100 && low != 0; step++) {
            long left = high % low;
            high = low;
            low = left;
        }
        return high;
    }

    /** THE TEXT, and how it is read. */
    private static final class Told {
        private final byte[] bytes = new byte[MOST_BYTES];
        private int length;
        private int at;
        private int wrong = NONE;

        int append(int n, long v) {
            if (n > MOST_BYTES - length) {
                return FULL;
            }
            for (int i = n - 1; i >= 0; i--) {
                bytes[length] = (byte) (v >>> 8 * i);
                length++;
            }
            return length;
        }

        int clear() {
            int was = length;
            length = 0;
            return was;
        }

        /** FAULT; what is told up to it comes into the crowd and the wares. */
        int read(Crowd crowd, Wares wares) {
            at = 0;
            wrong = NONE;
            crowd.clear();
            wares.clear();
            readLetter('R');
            crowd.eats = readDigit(0, MOST_EATS);
            crowd.music = readDigit(0, MOST_MUSIC);
            for (int part = 0; part < MOST_BYTES && wrong == NONE && at < length; part++) {
                readPart(crowd, wares);
            }
            return wrong;
        }

        private void readPart(Crowd crowd, Wares wares) {
            int letter = byteHere();
            if (letter == 'G' && crowd.rings < MOST_RINGS) {
                readRing(crowd);
            } else if (letter == 'S' && wares.count < MOST_STUFFS) {
                readStuff(wares);
            } else {
                wrong = at;
            }
        }

        private void readRing(Crowd crowd) {
            readLetter('G');
            int kind = readDigit(0, NODDING);
            int x = readDigit(0, SIDE - 1);
            int y = readDigit(0, SIDE - 1);
            int cell = SIDE * y + x;
            if (wrong == NONE && crowd.ringIn(cell) != NONE) {
                wrong = at - 1;
            }
            int people = readDigit(1, MOST_PEOPLE);
            int voice = readDigit(1, MOST_VOICE);
            int age = readDigit(0, 9);
            if (wrong == NONE) {
                crowd.add(kind, cell, people, voice, age);
            }
        }

        private void readStuff(Wares wares) {
            readLetter('S');
            int cost = readDigit(0, 9);
            int eaten = readDigit(1, 9);
            if (wrong == NONE) {
                wares.add(cost, eaten);
            }
        }

        private void readLetter(int letter) {
            if (wrong == NONE) {
                if (byteHere() == letter) {
                    at++;
                } else {
                    wrong = at;
                }
            }
        }

        /** The digit that is next, if it lies between these; else the FAULT is here, and the least is told. */
        private int readDigit(int least, int most) {
            if (wrong != NONE) {
                return least;
            }
            int digit = byteHere() - '0';
            if (digit < least || digit > most) {
                wrong = at;
                return least;
            }
            at++;
            return digit;
        }

        /** The byte that is next; NONE: THE TEXT is at its end. */
        private int byteHere() {
            return at >= 0 && at < length ? bytes[at] & 255 : NONE;
        }
    }

    /** RINGS, EATS, MUSIC and whether it FOLLOWS: how it is, was or might be. */
    private static final class Crowd {
        private final int[] kind = new int[MOST_RINGS];
        private final int[] cell = new int[MOST_RINGS];
        private final int[] people = new int[MOST_RINGS];
        private final int[] voice = new int[MOST_RINGS];
        private final int[] age = new int[MOST_RINGS];
        private final int[] nextVoice = new int[MOST_RINGS];
        private int rings;
        private int eats;
        private int music;
        private int nextMusic;
        private boolean follows;
        /** Which RINGS say nothing, as bits: only where a CHANCE is looked for. */
        private int silent;

        void clear() {
            rings = 0;
            eats = 0;
            music = 0;
            follows = false;
            silent = 0;
        }

        void copyFrom(Crowd other) {
            copyRings(other);
            eats = other.eats;
            follows = other.follows;
        }

        /** RINGS and how loud MUSIC is, but nothing else. */
        void copyRings(Crowd other) {
            rings = other.rings;
            for (int i = 0; i < rings; i++) {
                kind[i] = other.kind[i];
                cell[i] = other.cell[i];
                people[i] = other.people[i];
                voice[i] = other.voice[i];
                age[i] = other.age[i];
            }
            music = other.music;
            silent = 0;
        }

        boolean has(int ring) {
            return ring >= 0 && ring < rings;
        }

        void add(int newKind, int newCell, int newPeople, int newVoice, int newAge) {
            if (rings < MOST_RINGS) {
                kind[rings] = newKind;
                cell[rings] = newCell;
                people[rings] = newPeople;
                voice[rings] = newVoice;
                age[rings] = newAge;
                rings++;
            }
        }

        void remove(int ring) {
            if (has(ring)) {
                for (int i = ring; i < rings - 1; i++) {
                    kind[i] = kind[i + 1];
                    cell[i] = cell[i + 1];
                    people[i] = people[i + 1];
                    voice[i] = voice[i + 1];
                    age[i] = age[i + 1];
                }
                rings--;
            }
        }

        /** The RING in a CELL; NONE. */
        int ringIn(int where) {
            for (int i = 0; i < rings; i++) {
                if (cell[i] == where) {
                    return i;
                }
            }
            return NONE;
        }

        int firstFree() {
            for (int where = 0; where < CELLS; where++) {
                if (ringIn(where) == NONE) {
                    return where;
                }
            }
            return NONE;
        }

        int squareToRings(int where) {
            int least = NOTHING_NEAR;
            for (int i = 0; i < rings; i++) {
                least = Math.min(least, squareApart(where, cell[i]));
            }
            return least;
        }

        /** All speak by this VOICE: how many spoke by another one. */
        int speakAll(int v) {
            int changed = 0;
            for (int i = 0; i < rings; i++) {
                if (voice[i] != v) {
                    changed++;
                }
                voice[i] = v;
            }
            return changed;
        }

        int peopleAll() {
            int all = 0;
            for (int i = 0; i < rings; i++) {
                all += people[i];
            }
            return all;
        }

        int loudOf(int ring) {
            return people[ring] == 1 || (silent >> ring & 1) == 1 ? 0 : 1 << voice[ring];
        }

        int loudAll() {
            int all = 0;
            for (int i = 0; i < rings; i++) {
                all += loudOf(i);
            }
            return all;
        }

        int loudMusic() {
            return music == 0 ? 0 : 1 << music;
        }

        int echoing() {
            return (loudAll() + loudMusic()) * Math.max(0, 10 - eats) / 10;
        }

        int fromRing(int ring, int where) {
            int square = squareApart(where, cell[ring]);
            return square == 0 ? 0 : loudOf(ring) * 4 / square;
        }

        int fromAll(int where) {
            int all = 0;
            for (int i = 0; i < rings; i++) {
                all += fromRing(i, where);
            }
            return all;
        }

        int noiseAt(int where) {
            return echoing() + fromAll(where);
        }

        /** The SOUND of a RING, if it were so LOUD. */
        int soundBy(int ring, int loud) {
            int share = kind[ring] == LEANING ? people[ring] - 2 : people[ring];
            return loud * 8 / Math.max(1, share);
        }

        /** NODDING ones and those of one PERSON HEAR whatever is, and keep their VOICE. */
        boolean hearsAnyway(int ring) {
            return kind[ring] == NODDING || people[ring] == 1;
        }

        boolean hearsBy(int ring, int sound, int noise) {
            return 10 * sound >= noise * (10 + age[ring]);
        }

        boolean hears(int ring) {
            return hearsAnyway(ring) || hearsBy(ring, soundBy(ring, loudOf(ring)), noiseAt(cell[ring]));
        }

        int hearing() {
            int all = 0;
            for (int i = 0; i < rings; i++) {
                if (hears(i)) {
                    all |= 1 << i;
                }
            }
            return all;
        }

        boolean allHear() {
            for (int i = 0; i < rings; i++) {
                if (!hears(i)) {
                    return false;
                }
            }
            return true;
        }

        /** Works out what a MINUTE would bring; take() brings it. */
        void look() {
            int echo = echoing();
            for (int i = 0; i < rings; i++) {
                nextVoice[i] = voiceAfter(i, echo + fromAll(cell[i]));
            }
            nextMusic = musicAfter(echo);
        }

        void take() {
            for (int i = 0; i < rings; i++) {
                voice[i] = nextVoice[i];
            }
            music = nextMusic;
        }

        /** How many VOICES take() would change. */
        int changing() {
            int changed = 0;
            for (int i = 0; i < rings; i++) {
                if (voice[i] != nextVoice[i]) {
                    changed++;
                }
            }
            return changed;
        }

        private int voiceAfter(int ring, int noise) {
            int v = voice[ring];
            if (hearsAnyway(ring)) {
                return v;
            }
            int sound = soundBy(ring, loudOf(ring));
            if (hearsBy(ring, sound, noise)) {
                boolean lower = v > 1 && hearsBy(ring, soundBy(ring, 1 << (v - 1)), noise);
                return lower ? v - 1 : v;
            }
            if (kind[ring] == EASY && hearsBy(ring, 2 * sound, noise)) {
                return v;
            }
            return Math.min(MOST_VOICE, v + (kind[ring] == RAISED ? 2 : 1));
        }

        private int musicAfter(int echo) {
            int loud = loudMusic();
            if (!follows || echo == loud) {
                return music;
            }
            return echo > loud ? Math.min(MOST_MUSIC, music + 1) : Math.max(0, music - 1);
        }

        /** Goes to the REST: how many MINUTES it took; NONE: there is none. */
        int settle() {
            for (int minute = 0; minute <= MOST_MINUTES; minute++) {
                look();
                if (changing() == 0 && nextMusic == music) {
                    return minute;
                }
                take();
            }
            return NONE;
        }

        /** Goes to the REST: whether there is one, and all HEAR at it. */
        boolean restsHearing() {
            return settle() != NONE && allHear();
        }
    }

    /** STUFFS that may be had. */
    private static final class Wares {
        private final int[] cost = new int[MOST_STUFFS];
        private final int[] eaten = new int[MOST_STUFFS];
        private int count;

        void clear() {
            count = 0;
        }

        void add(int newCost, int newEaten) {
            if (count < MOST_STUFFS) {
                cost[count] = newCost;
                eaten[count] = newEaten;
                count++;
            }
        }

        void copyFrom(Wares other) {
            count = other.count;
            for (int i = 0; i < count; i++) {
                cost[i] = other.cost[i];
                eaten[i] = other.eaten[i];
            }
        }

        int costOf(int set) {
            return sumOf(cost, set);
        }

        int eatenBy(int set) {
            return sumOf(eaten, set);
        }

        private int sumOf(int[] row, int set) {
            int sum = 0;
            for (int i = 0; i < count; i++) {
                sum += (set >> i & 1) == 1 ? row[i] : 0;
            }
            return sum;
        }
    }

    /** How it was ahead of each of the last ACTS. */
    private static final class Acts {
        private final Crowd[] ahead = new Crowd[MOST_ACTS];
        private int count;

        Acts() {
            for (int i = 0; i < MOST_ACTS; i++) {
                ahead[i] = new Crowd();
            }
        }

        void clear() {
            count = 0;
        }

        void add(Crowd now) {
            if (count >= MOST_ACTS) {
                forgetFirst();
            }
            ahead[count].copyRings(now);
            count++;
        }

        void undoLast(Crowd now) {
            if (count > 0) {
                count--;
                now.copyRings(ahead[count]);
            }
        }

        private void forgetFirst() {
            Crowd first = ahead[0];
            for (int i = 0; i < MOST_ACTS - 1; i++) {
                ahead[i] = ahead[i + 1];
            }
            ahead[MOST_ACTS - 1] = first;
            count = MOST_ACTS - 1;
        }
    }

    /** METERS: when which ECHO was told. */
    private static final class Meters {
        private final int[] minutes = new int[MOST_METERS];
        private final int[] echoes = new int[MOST_METERS];
        private int count;

        int add(int minute, int echo) {
            if (count >= MOST_METERS) {
                return FULL;
            }
            minutes[count] = minute;
            echoes[count] = echo;
            count++;
            return count;
        }

        int clear() {
            int was = count;
            count = 0;
            return was;
        }

        /** Whether an ECHO at a MINUTE is as all METERS of that MINUTE tell. */
        boolean fit(int minute, int echo) {
            for (int i = 0; i < count; i++) {
                if (minutes[i] == minute && Math.abs(echoes[i] - echo) > ECHO_OFF) {
                    return false;
                }
            }
            return true;
        }
    }

    /** What is kept, and in which SLOTS. */
    private static final class Slots {
        private final Crowd[] kept = new Crowd[SLOTS];
        private int filled;

        Slots() {
            for (int i = 0; i < SLOTS; i++) {
                kept[i] = new Crowd();
            }
        }

        void clear() {
            filled = 0;
        }

        boolean isKept(int slot) {
            return (filled >> slot & 1) == 1;
        }

        void put(int slot, Crowd now) {
            kept[slot].copyFrom(now);
            filled |= 1 << slot;
        }

        Crowd at(int slot) {
            return kept[slot];
        }
    }
}
