/** Sentences of promises 6 to 13. */
final class RoomSentences {
    private static final int MIN = Integer.MIN_VALUE, MAX = Integer.MAX_VALUE;
    /** As many RINGS, PEOPLE, as loud as can be; all are NODDING. */
    private static final String MOST =
        "R99G400990G420990G440990G460990G480990G402990G422990G442990S99S99S99S99S99";

    private final Sentences s;

    private RoomSentences(Sentences s) {
        this.s = s;
    }

    static void all(Sentences s) {
        RoomSentences tests = new RoomSentences(s);
        tests.abouts();
        tests.rings();
        tests.louds();
        tests.hears();
        tests.stuffs();
        tests.noises();
        tests.froms();
        tests.voices();
        tests.musics();
        tests.eats();
    }

    private void abouts() {
        leastAndMost();
        fullRows();
        setsAreBits();
        aboutBad();
        echoes();
    }

    private void leastAndMost() {
        s.of(6, "RINGS (what = 0), PEOPLE (1), EATS (2), MUSIC (3), ECHO (4), LOUD of all RINGS (5), "
            + "which RINGS HEAR, as bits (6), STUFFS (7), ACTS (8), METERS (9), bytes of THE TEXT (10).");
        int[] most = {8, 72, 9, 9, 460, 4096, 255, 5, 0, 0, 74};
        LouderRoom x = Check.room(MOST);
        LouderRoom nobody = Check.room("R00");
        for (int what = 0; what <= 10; what++) {
            s.due("about(" + what + ") of the most", x.about(what), most[what]);
            s.due("about(" + what + ") of nobody", nobody.about(what), what == 10 ? 3 : 0);
        }
    }

    private void fullRows() {
        s.of(6, "STUFFS (7), ACTS (8), METERS (9), bytes of THE TEXT (10).");
        LouderRoom x = Rooms.at(Rooms::full);
        s.due("about(7)", x.about(7), 5);
        s.due("about(8)", x.about(8), 10);
        s.due("about(9)", x.about(9), 6);
        s.due("about(10)", x.about(10), 80);
        x.minute();
        x.meter(0, 0);
        x.write(1, 0);
        s.due("about(8), one ACT more", x.about(8), 10);
        s.due("about(9), one METER more", x.about(9), 6);
        s.due("about(10), one byte more", x.about(10), 80);
    }

    private void setsAreBits() {
        s.terms(6, "RINGS are 0, 1, .. (8 at most), sets of them bits.");
        for (int ring = 0; ring < 8; ring++) {
            StringBuilder text = new StringBuilder("R00");
            for (int i = 0; i < 8; i++) {
                text.append('G').append(i == ring ? 4 : 0).append(i).append("0990");
            }
            s.due("about(6), RING " + ring + " alone HEARS", Check.room(text.toString()).about(6), 1 << ring);
        }
    }

    private void aboutBad() {
        s.of(6, "BAD.");
        for (int what : new int[] {-1, 11, 12, MIN, MAX}) {
            s.due("about(" + what + ")", new LouderRoom().about(what), -2);
        }
        s.unchanged("about(11)", Rooms::full, x -> s.due("about(11)", x.about(11), -2));
        s.unchanged("about(-1)", Rooms::some, x -> s.due("about(-1)", x.about(-1), -2));
        s.unchanged("about(4)", Rooms::some, x -> s.due("about(4)", x.about(4), x.about(4)));
    }

    private void echoes() {
        s.terms(6, "ECHO: LOUD of all RINGS and of MUSIC together, times what EATS is less than 10 (0 at least), by 10, cut.");
        int[] want = {1024, 921, 819, 716, 614, 512, 409, 307, 204, 102};
        for (int e = 0; e <= 9; e++) {
            s.due("about(4), EATS " + e, Check.room("R" + e + "9G000990").about(4), want[e]);
        }
        s.due("about(4), 18 by 10", Check.room("R11").about(4), 1);
        s.due("about(4), 8 by 10", Check.room("R93").about(4), 0);
        s.due("about(4), 10 by 10", Check.room("R51").about(4), 1);
        s.due("about(4), 12 by 10, together ahead of the cut", Check.room("R71G000210").about(4), 1);
        s.due("about(4), no less is eaten beyond 9", Check.room("R99S99S99S99S99S99").about(4), 51);
        s.due("about(4), nothing", Check.room("R00G000190").about(4), 0);
    }

    private void rings() {
        ringsValues();
        cellsTold();
        kindsOfRings();
        ringRefused();
    }

    private void ringsValues() {
        s.of(7, "Of a RING KIND (what = 0), CELL (1), PEOPLE (2), VOICE (3), AGE (4), LOUD (5), SOUND (6), "
            + "NOISE at its CELL (7), 1 if it HEARS (8).");
        int[] least = {0, 0, 1, 1, 0, 0, 0, 0, 1};
        int[] most = {4, 99, 9, 9, 9, 512, 455, 512, 1};
        int[] deaf = {2, 99, 9, 9, 9, 512, 455, 512, 0};
        for (int what = 0; what <= 8; what++) {
            s.due("ring(0, " + what + ") of the least", Check.room("R00G000110").ring(0, what), least[what]);
            s.due("ring(0, " + what + ") of the most", Check.room("R00G499999").ring(0, what), most[what]);
            s.due("ring(0, " + what + ") of one that does not HEAR", Check.room("R00G299999").ring(0, what), deaf[what]);
        }
        LouderRoom x = Check.room(MOST);
        s.due("ring(7, 1), the last of 8", x.ring(7, 1), 24);
        s.due("ring(7, 7)", x.ring(7, 7), x.noise(4, 2));
    }

    private void cellsTold() {
        s.terms(7, "9 each), told as 10 y and x.");
        LouderRoom x = Check.room("R00G000110G190110G209110G399110G412110G021110");
        int[] cells = {0, 9, 90, 99, 21, 12};
        for (int ring = 0; ring < cells.length; ring++) {
            s.due("ring(" + ring + ", 1)", x.ring(ring, 1), cells[ring]);
        }
    }

    private void kindsOfRings() {
        s.terms(7, "KINDS: 0 plain; 1 EASY; 2 RAISED; 3 LEANING; 4 NODDING.");
        int[] sounds = {4, 4, 4, 8, 4};
        int[] hears = {0, 0, 0, 0, 1};
        int[] voices = {2, 1, 3, 2, 1};
        for (int kind = 0; kind <= 4; kind++) {
            LouderRoom x = Check.room("R02G" + kind + "00419");
            s.due("ring(0, 0) of KIND " + kind, x.ring(0, 0), kind);
            s.due("ring(0, 6) of KIND " + kind, x.ring(0, 6), sounds[kind]);
            s.due("ring(0, 8) of KIND " + kind, x.ring(0, 8), hears[kind]);
            LouderRoom old = Check.room("R01G" + kind + (kind == 3 ? "00919" : kind == 1 ? "00410" : "00419"));
            if (kind == 1) {
                old.music(2, false);
            }
            old.minute();
            s.due("ring(0, 3) of KIND " + kind + " behind a MINUTE", old.ring(0, 3), voices[kind]);
        }
    }

    private void ringRefused() {
        s.of(7, "UNKNOWN; BAD.");
        LouderRoom x = Check.room(MOST);
        for (int ring : new int[] {-1, 8, 9, MIN, MAX}) {
            s.due("ring(" + ring + ", 0) of 8", x.ring(ring, 0), -1);
            s.due("ring(" + ring + ", 9), UNKNOWN ahead of BAD", x.ring(ring, 9), -1);
            s.due("ring(" + ring + ", -1), UNKNOWN ahead of BAD", x.ring(ring, -1), -1);
        }
        for (int what : new int[] {-1, 9, 10, MIN, MAX}) {
            s.due("ring(7, " + what + ")", x.ring(7, what), -2);
            s.due("ring(0, " + what + ")", x.ring(0, what), -2);
        }
        x.home(7);
        s.due("ring(7, 0), it went HOME", x.ring(7, 0), -1);
        s.due("ring(6, 0)", x.ring(6, 0), 4);
        s.due("ring(0, 0) of nobody", new LouderRoom().ring(0, 0), -1);
        s.unchanged("ring(8, 0)", Rooms::full, y -> s.due("ring(8, 0)", y.ring(8, 0), -1));
        s.unchanged("ring(0, 9)", Rooms::some, y -> s.due("ring(0, 9)", y.ring(0, 9), -2));
    }

    private void louds() {
        loudOfAVoice();
        onePersonSaysNothing();
        musicLikewise();
        sounds();
    }

    private void loudOfAVoice() {
        s.terms(7, "LOUD of a VOICE v: 2 times 2 times .. (v of these);");
        int want = 2;
        for (int v = 1; v <= 9; v++) {
            s.due("ring(0, 5) of VOICE " + v, Check.room("R00G0002" + v + "0").ring(0, 5), want);
            want *= 2;
        }
    }

    private void onePersonSaysNothing() {
        s.terms(7, "of a RING of one PERSON 0: it says nothing.");
        for (int kind = 0; kind <= 4; kind++) {
            LouderRoom x = Check.room("R00G" + kind + "00190G" + kind + "10290");
            s.due("ring(0, 5) of KIND " + kind, x.ring(0, 5), 0);
            s.due("ring(0, 6)", x.ring(0, 6), 0);
            s.due("ring(1, 5), two are not one", x.ring(1, 5), 512);
            s.due("about(5)", x.about(5), 512);
            s.due("from(0, 1, 0)", x.from(0, 1, 0), 0);
        }
    }

    private void musicLikewise() {
        s.terms(6, "MUSIC m likewise, of 0: 0.");
        s.due("about(4), MUSIC 0", Check.room("R00").about(4), 0);
        int want = 2;
        for (int m = 1; m <= 9; m++) {
            s.due("about(4), MUSIC " + m, Check.room("R0" + m).about(4), want);
            want *= 2;
        }
    }

    private void sounds() {
        s.terms(7, "At its PEOPLE a RING of n comes to its LOUD times 8 by n "
            + "(by n less 2, 1 at least, if it is LEANING), cut: that is its SOUND.");
        int[] plain = {0, 8, 5, 4, 3, 2, 2, 2, 1};
        int[] leaning = {0, 16, 16, 8, 5, 4, 3, 2, 2};
        for (int n = 1; n <= 9; n++) {
            for (int kind = 0; kind <= 4; kind++) {
                s.due("ring(0, 6) of KIND " + kind + ", " + n, Check.room("R00G" + kind + "00" + n + "10").ring(0, 6),
                    kind == 3 ? leaning[n - 1] : plain[n - 1]);
            }
        }
        s.due("ring(0, 6), 4096 by 9", Check.room("R00G000990").ring(0, 6), 455);
        s.due("ring(0, 6), 4096 by 7", Check.room("R00G300990").ring(0, 6), 585);
        s.due("ring(0, 6), 4096 by 1", Check.room("R00G300390").ring(0, 6), 4096);
    }

    private void hears() {
        noLessThanNoise();
        ageTogetherWithTen();
        onePersonAlwaysHears();
        noddingToo();
    }

    private void hearsIs(String text, int want) {
        LouderRoom x = Check.room(text);
        s.due("ring(0, 8) of " + text, x.ring(0, 8), want);
        s.due("about(6) of " + text, x.about(6) & 1, want);
    }

    private void noLessThanNoise() {
        s.terms(7, "It HEARS, if 10 times SOUND is no less than NOISE at its CELL times (10 and its AGE together).");
        for (int v = 1; v <= 9; v++) {
            hearsIs("R00G0008" + v + "0", 1);
            hearsIs("R00G0009" + v + "0", 0);
            hearsIs("R00G0007" + v + "0", 1);
        }
        hearsIs("R01G000410", 1);
        hearsIs("R02G000410", 0);
        hearsIs("R00G000410G499210", 1);
        hearsIs("R00G000410G422210", 0);
        hearsIs("R00G000410G430210", 1);
        hearsIs("R99G000910", 0);
        hearsIs("R94G000910", 1);
        hearsIs("R95G000910", 0);
    }

    private void ageTogetherWithTen() {
        s.terms(7, "(10 and its AGE together)");
        hearsIs("R00G000810", 1);
        hearsIs("R00G000811", 0);
        hearsIs("R00G000515", 1);
        hearsIs("R00G000516", 0);
        hearsIs("R00G000419", 1);
        hearsIs("R00G000519", 0);
    }

    private void onePersonAlwaysHears() {
        s.terms(7, "(One of one PERSON always HEARS.");
        for (int kind = 0; kind <= 4; kind++) {
            hearsIs("R09G" + kind + "00119G001990", 1);
            hearsIs("R09G" + kind + "00219G001990", kind == 4 ? 1 : 0);
        }
    }

    private void noddingToo() {
        s.terms(7, "One that is NODDING, too.)");
        for (int n = 1; n <= 9; n++) {
            hearsIs("R09G400" + n + "19G001990", 1);
            hearsIs("R09G300" + n + "19G001990", n == 1 ? 1 : 0);
        }
    }

    private void stuffs() {
        s.of(8, "Of a STUFF its cost (what = 0), what it EATS (1).");
        LouderRoom x = Check.room("R00S01S99G000110S19");
        int[][] want = {{0, 1}, {9, 9}, {1, 9}};
        for (int stuff = 0; stuff < 3; stuff++) {
            s.due("stuff(" + stuff + ", 0)", x.stuff(stuff, 0), want[stuff][0]);
            s.due("stuff(" + stuff + ", 1)", x.stuff(stuff, 1), want[stuff][1]);
        }
        s.terms(8, "numbered as they are told");
        LouderRoom five = Check.room("R00S11S22G000110S33S44S55");
        for (int stuff = 0; stuff < 5; stuff++) {
            s.due("stuff(" + stuff + ", 0)", five.stuff(stuff, 0), stuff + 1);
        }
        s.of(8, "UNKNOWN; BAD.");
        for (int stuff : new int[] {-1, 5, 6, MIN, MAX}) {
            s.due("stuff(" + stuff + ", 0) of 5", five.stuff(stuff, 0), -1);
            s.due("stuff(" + stuff + ", 2), UNKNOWN ahead of BAD", five.stuff(stuff, 2), -1);
            s.due("stuff(" + stuff + ", -1), UNKNOWN ahead of BAD", five.stuff(stuff, -1), -1);
        }
        for (int what : new int[] {-1, 2, MIN, MAX}) {
            s.due("stuff(4, " + what + ")", five.stuff(4, what), -2);
        }
        s.due("stuff(3, 0) of 3", x.stuff(3, 0), -1);
        s.due("stuff(0, 0) of none", new LouderRoom().stuff(0, 0), -1);
        s.unchanged("stuff(5, 0)", Rooms::full, y -> s.due("stuff(5, 0)", y.stuff(5, 0), -1));
        s.unchanged("stuff(0, 2)", Rooms::some, y -> s.due("stuff(0, 2)", y.stuff(0, 2), -2));
    }

    private void noises() {
        s.of(9, "NOISE at a CELL.");
        LouderRoom x = Check.room("R00G000230G010330");
        int[][] want = {{0, 0, 48}, {1, 0, 48}, {2, 0, 56}, {9, 9, 16}, {0, 9, 16}, {9, 0, 16}, {0, 1, 64}};
        for (int[] at : want) {
            s.due("noise(" + at[0] + ", " + at[1] + ")", x.noise(at[0], at[1]), at[2]);
        }
        s.terms(9, "NOISE at a CELL: ECHO and what is FROM all RINGS of other CELLS.");
        LouderRoom alone = Check.room("R92G055290");
        s.due("noise(5, 5), its own CELL: ECHO alone", alone.noise(5, 5), 51);
        s.due("noise(5, 6), the next one", alone.noise(5, 6), 51 + 2048);
        s.due("noise(0, 0) of nobody", new LouderRoom().noise(0, 0), 0);
        s.due("noise(0, 0) of the most", Check.room("R00G001990G010990G011990").noise(0, 0), 1536 + 2048 + 2048 + 1024);
        s.of(9, "BAD: x, y.");
        for (int wrong : new int[] {-1, 10, 11, MIN, MAX}) {
            s.due("noise(" + wrong + ", 0)", x.noise(wrong, 0), -2);
            s.due("noise(0, " + wrong + ")", x.noise(0, wrong), -2);
            s.due("noise(9, " + wrong + ")", x.noise(9, wrong), -2);
            s.due("noise(" + wrong + ", " + wrong + ")", x.noise(wrong, wrong), -2);
        }
        s.due("noise(-10, 1)", x.noise(-10, 1), -2);
        s.due("noise(19, -1)", x.noise(19, -1), -2);
        s.unchanged("noise(10, 9)", Rooms::full, y -> s.due("noise(10, 9)", y.noise(10, 9), -2));
    }

    private void froms() {
        s.of(10, "What is FROM a RING at a CELL; 0 at its own.");
        LouderRoom x = Check.room("R00G000290G499210");
        s.due("from(0, 0, 0), its own", x.from(0, 0, 0), 0);
        s.due("from(1, 9, 9), its own", x.from(1, 9, 9), 0);
        s.due("from(0, 9, 9), another one's", x.from(0, 9, 9), 12);
        s.due("from(1, 0, 0), another one's", x.from(1, 0, 0), 0);
        s.terms(10, "FROM a RING at another CELL: its LOUD times 4 by the square of how far it is "
            + "(x apart by itself, y apart by itself, together), cut.");
        int[][] want = {{1, 0, 2048}, {0, 1, 2048}, {1, 1, 1024}, {2, 0, 512}, {3, 0, 227}, {9, 0, 25}, {0, 9, 25}, {8, 9, 14}};
        for (int[] at : want) {
            s.due("from(0, " + at[0] + ", " + at[1] + ")", x.from(0, at[0], at[1]), at[2]);
        }
        s.due("from(1, 7, 7), 8 by 8", x.from(1, 7, 7), 1);
        s.due("from(1, 6, 9), 8 by 9", x.from(1, 6, 9), 0);
        s.due("from(1, 8, 9)", x.from(1, 8, 9), 8);
        s.due("from(1, 8, 7), 8 by 5", x.from(1, 8, 7), 1);
        s.due("from(0, 1, 0), EATS is nothing to it", Check.room("R90G000290").from(0, 1, 0), 2048);
        fromsRefused();
    }

    private void fromsRefused() {
        s.of(10, "UNKNOWN; BAD.");
        LouderRoom x = Check.room("R00G000290G499210");
        for (int ring : new int[] {-1, 2, 8, MIN, MAX}) {
            s.due("from(" + ring + ", 0, 0) of 2", x.from(ring, 0, 0), -1);
            s.due("from(" + ring + ", 10, 0), UNKNOWN ahead of BAD", x.from(ring, 10, 0), -1);
            s.due("from(" + ring + ", 0, -1), UNKNOWN ahead of BAD", x.from(ring, 0, -1), -1);
        }
        for (int wrong : new int[] {-1, 10, MIN, MAX}) {
            s.due("from(1, " + wrong + ", 9)", x.from(1, wrong, 9), -2);
            s.due("from(1, 9, " + wrong + ")", x.from(1, 9, wrong), -2);
        }
        s.unchanged("from(8, 0, 0)", Rooms::full, y -> s.due("from(8, 0, 0)", y.from(8, 0, 0), -1));
        s.unchanged("from(0, 0, 10)", Rooms::some, y -> s.due("from(0, 0, 10)", y.from(0, 0, 10), -2));
    }

    private void voices() {
        s.of(11, "A VOICE is otherwise: what it was.");
        LouderRoom x = Check.room("R00G000250G011260");
        int was = 5;
        for (int v = 1; v <= 9; v++) {
            s.due("voice(0, " + v + ")", x.voice(0, v), was);
            s.due("ring(0, 3)", x.ring(0, 3), v);
            s.due("ring(0, 5)", x.ring(0, 5), 1 << v);
            was = v;
        }
        s.due("voice(0, 9), as it is", x.voice(0, 9), 9);
        s.due("ring(1, 3), the other one's stays", x.ring(1, 3), 6);
        s.due("about(8), it is no ACT", x.about(8), 0);
        s.of(11, "UNKNOWN; BAD: v (1 .. 9).");
        for (int v : new int[] {0, 10, -1, MIN, MAX}) {
            s.due("voice(1, " + v + ")", x.voice(1, v), -2);
            s.due("voice(2, " + v + "), UNKNOWN ahead of BAD", x.voice(2, v), -1);
            s.due("ring(1, 3), nothing is changed", x.ring(1, 3), 6);
        }
        for (int ring : new int[] {-1, 2, 8, MIN, MAX}) {
            s.due("voice(" + ring + ", 1)", x.voice(ring, 1), -1);
        }
        s.due("voice(0, 1) of nobody", new LouderRoom().voice(0, 1), -1);
        s.unchanged("voice(8, 3)", Rooms::full, y -> s.due("voice(8, 3)", y.voice(8, 3), -1));
        s.unchanged("voice(0, 10)", Rooms::full, y -> s.due("voice(0, 10)", y.voice(0, 10), -2));
        s.unchanged("voice(0, 0)", Rooms::some, y -> s.due("voice(0, 0)", y.voice(0, 0), -2));
    }

    private void musics() {
        s.of(12, "MUSIC is otherwise, and FOLLOWS or not: what it was.");
        LouderRoom x = Check.room("R04G400290");
        s.due("music(0, true)", x.music(0, true), 4);
        x.minute();
        s.due("about(3), it FOLLOWS", x.about(3), 1);
        s.due("music(8, false)", x.music(8, false), 1);
        x.minute();
        s.due("about(3), it does not", x.about(3), 8);
        s.due("music(8, true), as it is", x.music(8, true), 8);
        x.minute();
        s.due("about(3), it FOLLOWS", x.about(3), 9);
        s.due("about(8), it is no ACT", x.about(8), 3);
        s.of(12, "BAD: m (0 .. 9).");
        s.due("music(9, false)", x.music(9, false), 9);
        s.due("music(0, false)", x.music(0, false), 9);
        for (int m : new int[] {-1, 10, MIN, MAX}) {
            s.due("music(" + m + ", true)", x.music(m, true), -2);
            s.due("about(3), nothing is changed", x.about(3), 0);
        }
        x.minute();
        s.due("about(3), it does not FOLLOW by what was refused", x.about(3), 0);
        s.unchanged("music(10, false)", Rooms::full, y -> s.due("music(10, false)", y.music(10, false), -2));
        s.unchanged("music(-1, false)", Rooms::some, y -> s.due("music(-1, false)", y.music(-1, false), -2));
        s.unchanged("music(10, true)", Rooms::nobody, y -> s.due("music(10, true)", y.music(10, true), -2));
    }

    private void eats() {
        s.of(13, "EATS is otherwise: what it was.");
        LouderRoom x = Check.room("R49");
        int was = 4;
        for (int e = 0; e <= 9; e++) {
            s.due("eats(" + e + ")", x.eats(e), was);
            s.due("about(2)", x.about(2), e);
            s.due("about(4)", x.about(4), 512 * (10 - e) / 10);
            was = e;
        }
        s.due("about(8), it is no ACT", x.about(8), 0);
        s.of(13, "BAD: e (0 .. 9).");
        for (int e : new int[] {-1, 10, MIN, MAX}) {
            s.due("eats(" + e + ")", x.eats(e), -2);
            s.due("about(2), nothing is changed", x.about(2), 9);
        }
        s.unchanged("eats(10)", Rooms::full, y -> s.due("eats(10)", y.eats(10), -2));
        s.unchanged("eats(-1)", Rooms::some, y -> s.due("eats(-1)", y.eats(-1), -2));
    }
}
