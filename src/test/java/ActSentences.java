/** Sentences of promises 14 to 19. */
final class ActSentences {
    private static final int MIN = Integer.MIN_VALUE, MAX = Integer.MAX_VALUE;
    private static final String SEVEN = "R00G000430G010310G020910G030110G040510G050610G060710";

    private final Sentences s;

    private ActSentences(Sentences s) {
        this.s = s;
    }

    static void all(Sentences s) {
        ActSentences tests = new ActSentences(s);
        tests.minutes();
        tests.musicFollows();
        tests.breaks();
        tests.joins();
        tests.homes();
        tests.hushes();
        tests.undos();
        tests.rowOfActs();
    }

    /** RING 0 behind one MINUTE: its VOICE; whether it has another one. */
    private void behind(String text, int want) {
        LouderRoom x = Check.room(text);
        int was = x.ring(0, 3);
        int others = 0;
        for (int i = 1; i < x.about(0); i++) {
            others += x.ring(i, 0) == 4 ? 0 : 1;
        }
        int changed = x.minute();
        if (others == 0) {
            s.due("minute() of " + text, changed, was == want ? 0 : 1);
        }
        s.due("ring(0, 3) behind a MINUTE of " + text, x.ring(0, 3), want);
    }

    private void minutes() {
        howManyHaveAnotherVoice();
        raisesByOne();
        raisedByTwo();
        nineAtMost();
        easyOnlyIf();
        lowersByOne();
        oneAtLeast();
        byNoiseAsItWas();
        noddingAndOnePersonNeither();
        allAtOnce();
    }

    private void howManyHaveAnotherVoice() {
        s.of(14, "A MINUTE: how many RINGS have another VOICE.");
        for (int rings = 0; rings <= 8; rings++) {
            StringBuilder text = new StringBuilder("R00");
            for (int i = 0; i < 8; i++) {
                text.append(i < rings ? "G0" : "G4").append(i).append("0910");
            }
            LouderRoom x = Check.room(text.toString());
            s.due("minute(), " + rings + " do not HEAR", x.minute(), rings);
            s.due("about(8)", x.about(8), 1);
        }
        LouderRoom two = Check.room("R00G000910G099240");
        s.due("minute(), one is louder, one softer", two.minute(), 2);
        s.due("minute() of nobody", new LouderRoom().minute(), 0);
        LouderRoom x = Check.room("R00G400210");
        x.music(0, true);
        s.due("minute(), MUSIC alone is otherwise", x.minute(), 0);
        s.due("about(3)", x.about(3), 1);
    }

    private void raisesByOne() {
        s.terms(14, "a RING that does not HEAR raises its VOICE by 1");
        for (int v = 1; v <= 8; v++) {
            behind("R00G0009" + v + "0", v + 1);
            behind("R00G0008" + v + "1", v + 1);
            behind("R00G0008" + v + "0", v);
        }
    }

    private void raisedByTwo() {
        s.terms(14, "(RAISED: by 2;");
        for (int v = 1; v <= 7; v++) {
            behind("R00G2009" + v + "0", v + 2);
        }
        behind("R00G200850", 5);
        behind("R00G200450", 4);
    }

    private void nineAtMost() {
        s.terms(14, "9 at most; EASY");
        behind("R00G000980", 9);
        behind("R00G000990", 9);
        behind("R00G200970", 9);
        behind("R00G200980", 9);
        behind("R00G200990", 9);
        behind("R00G100989", 9);
        behind("R00G100999", 9);
        behind("R00G300989", 9);
        behind("R00G300999", 9);
    }

    private void easyOnlyIf() {
        s.terms(14, "EASY: only if it would not HEAR with twice the SOUND either);");
        behind("R03G100830", 3);
        behind("R03G100831", 4);
        behind("R03G100930", 4);
        behind("R03G000830", 4);
        behind("R00G100910", 1);
        behind("R50G100910G422210", 2);
        behind("R50G100910G432210", 1);
        behind("R00G100450", 4);
    }

    private void lowersByOne() {
        s.terms(14, "one that HEARS lowers it by 1");
        for (int v = 2; v <= 9; v++) {
            behind("R00G0004" + v + "0", v - 1);
            behind("R00G0005" + v + "0", v);
            behind("R00G0004" + v + "1", v);
            behind("R00G0002" + v + "9", v - 1);
            behind("R00G2002" + v + "0", v - 1);
            behind("R00G1002" + v + "0", v - 1);
            behind("R00G3006" + v + "0", v - 1);
            behind("R00G3007" + v + "0", v);
        }
    }

    private void oneAtLeast() {
        s.terms(14, "(1 at least), if it would HEAR");
        for (int kind = 0; kind <= 4; kind++) {
            behind("R00G" + kind + "00210", 1);
            behind("R00G" + kind + "00110", 1);
            behind("R90G" + kind + "00210", 1);
        }
        behind("R00G000220", 1);
    }

    private void byNoiseAsItWas() {
        s.terms(14, "if it would HEAR with a VOICE of 1 less by NOISE as it was.");
        behind("R00G000850", 5);
        behind("R00G000550", 5);
        behind("R90G000990", 8);
        behind("R00G000440", 3);
        behind("R00G000440G499210", 4);
    }

    private void noddingAndOnePersonNeither() {
        s.terms(14, "(NODDING ones and those of one PERSON: neither.)");
        for (int v = 1; v <= 9; v++) {
            behind("R00G4009" + v + "9", v);
            behind("R00G4002" + v + "0", v);
            behind("R00G0001" + v + "0", v);
            behind("R09G0001" + v + "9", v);
            behind("R00G2001" + v + "9", v);
        }
    }

    /** RING at 9, 9 HEARS just so, by what the other one was. */
    private void allAtOnce() {
        s.terms(14, "A MINUTE, all at once by what was:");
        LouderRoom first = Check.room("R00G000910G099410");
        s.due("minute()", first.minute(), 1);
        s.due("ring(0, 3)", first.ring(0, 3), 2);
        s.due("ring(1, 3), by how loud RING 0 was", first.ring(1, 3), 1);
        LouderRoom last = Check.room("R00G099410G000910");
        s.due("minute()", last.minute(), 1);
        s.due("ring(0, 3)", last.ring(0, 3), 1);
        s.due("ring(1, 3)", last.ring(1, 3), 2);
        s.due("minute(), now it does not HEAR", last.minute(), 2);
        LouderRoom music = Check.room("R00G000830");
        music.music(0, true);
        s.due("minute(), MUSIC begins", music.minute(), 0);
        s.due("ring(0, 3), by MUSIC as it was", music.ring(0, 3), 3);
        s.due("about(3)", music.about(3), 1);
        s.due("minute()", music.minute(), 1);
    }

    /** MUSIC behind one MINUTE. */
    private void musicBehind(String text, int m, boolean follows, int want) {
        LouderRoom x = Check.room(text);
        x.music(m, follows);
        x.minute();
        s.due("about(3) of " + text + ", MUSIC " + m + ", " + follows, x.about(3), want);
    }

    private void musicFollows() {
        s.terms(14, "If MUSIC FOLLOWS, it is 1 more (9 at most), if ECHO (as it was) is more than its LOUD");
        for (int m = 0; m <= 9; m++) {
            musicBehind("R00G400290", m, true, Math.min(9, m + 1));
            musicBehind("R00G400290", m, false, m);
        }
        musicBehind("R00", 0, true, 0);
        musicBehind("R00", 5, true, 5);
        musicBehind("R50G400230", 3, true, 3);
        musicBehind("R50G400240", 3, true, 4);
        musicBehind("R90G400230", 0, true, 0);
        musicBehind("R90G400240", 0, true, 1);
        s.terms(14, "1 less (0 at least), if it is less.");
        for (int m = 0; m <= 9; m++) {
            musicBehind("R10", m, true, Math.max(0, m - 1));
            musicBehind("R10", m, false, m);
        }
        musicBehind("R50G400220", 3, true, 2);
        musicBehind("R91", 0, true, 0);
        musicBehind("R91", 1, true, 0);
        s.terms(14, "if ECHO (as it was) is more");
        musicBehind("R50G000930", 3, true, 3);
        musicBehind("R50G000230", 3, true, 3);
    }

    private void breaks() {
        numberOfTheNewRing();
        fourOrMore();
        keepsHalf();
        asItIsElse();
        firstCell();
        breaksRefused();
    }

    private void numberOfTheNewRing() {
        s.of(15, "It BREAKS: the number of the new RING.");
        LouderRoom one = Check.room("R00G000910");
        s.due("breaks(0) of 9", one.breaks(0), 1);
        s.due("breaks(0) of 4", one.breaks(0), 2);
        s.due("breaks(1) of 5", one.breaks(1), 3);
        s.due("about(0)", one.about(0), 4);
        s.due("about(1)", one.about(1), 9);
        s.due("breaks(0) of 7 RINGS", Check.room(SEVEN).breaks(0), 7);
        s.terms(15, "the others are a RING behind all others");
        LouderRoom x = Check.room("R00G099530G098310");
        s.due("breaks(0)", x.breaks(0), 2);
        s.due("ring(0, 1)", x.ring(0, 1), 99);
        s.due("ring(1, 1)", x.ring(1, 1), 89);
        s.due("ring(2, 1)", x.ring(2, 1), 0);
    }

    private void fourOrMore() {
        s.terms(15, "of n of 4 or more:");
        for (int n = 1; n <= 9; n++) {
            s.due("breaks(0) of " + n, Check.room("R00G055" + n + "10").breaks(0), n < 4 ? -3 : 1);
        }
    }

    private void keepsHalf() {
        s.terms(15, "it keeps n by 2, cut;");
        for (int n = 4; n <= 9; n++) {
            LouderRoom x = Check.room("R00G055" + n + "10");
            x.breaks(0);
            s.due("ring(0, 2) of " + n, x.ring(0, 2), n / 2);
            s.due("ring(1, 2) of " + n, x.ring(1, 2), n - n / 2);
        }
    }

    private void asItIsElse() {
        s.terms(15, "as it is else");
        for (int kind = 0; kind <= 4; kind++) {
            LouderRoom x = Check.room("R00G" + kind + "55978");
            x.breaks(0);
            int[] want = {kind, 0, 5, 7, 8};
            for (int what = 0; what <= 4; what++) {
                s.due("ring(1, " + what + ")", x.ring(1, what), want[what]);
            }
            s.due("ring(0, 1)", x.ring(0, 1), 55);
            s.due("ring(0, 4)", x.ring(0, 4), 8);
        }
    }

    private void breaksTo(String text, int ring, int cell) {
        LouderRoom x = Check.room(text);
        int made = x.breaks(ring);
        s.due("ring(.., 1) of the new one of " + text, x.ring(made, 1), cell);
    }

    private void firstCell() {
        s.terms(15, "in the first CELL in which there is none)");
        breaksTo("R00G099410", 0, 0);
        breaksTo("R00G000410", 0, 1);
        breaksTo("R00G010410", 0, 0);
        breaksTo("R00G001410", 0, 0);
        breaksTo("R00G000410G001410", 0, 1);
        breaksTo("R00G020410G010110G000110", 0, 3);
        breaksTo("R00G000410G020110", 0, 1);
        breaksTo(SEVEN, 0, 7);
        LouderRoom x = Check.room("R00G000110G010410");
        x.home(0);
        s.due("breaks(0), the first one went HOME", x.breaks(0), 1);
        s.due("ring(1, 1)", x.ring(1, 1), 0);
    }

    private void breaksRefused() {
        s.of(15, "UNKNOWN; LATE: it has less than 4 PEOPLE; FULL: there are 8 RINGS.");
        LouderRoom x = Check.room(SEVEN);
        for (int ring : new int[] {-1, 7, 8, MIN, MAX}) {
            s.due("breaks(" + ring + ") of 7", x.breaks(ring), -1);
        }
        s.due("breaks(1) of three PEOPLE", x.breaks(1), -3);
        s.due("breaks(3) of one", x.breaks(3), -3);
        s.due("breaks(0) of four", x.breaks(0), 7);
        s.due("breaks(2), FULL", x.breaks(2), -4);
        s.due("breaks(0), LATE ahead of FULL", x.breaks(0), -3);
        s.due("breaks(7), LATE ahead of FULL", x.breaks(7), -3);
        s.due("breaks(8), UNKNOWN ahead of FULL", x.breaks(8), -1);
        s.due("about(8), one ACT", x.about(8), 1);
        s.due("home(7)", x.home(7), 7);
        s.due("breaks(2), no more FULL", x.breaks(2), 7);
        s.unchanged("breaks(0), FULL", Rooms::full, y -> s.due("breaks(0)", y.breaks(0), -4));
        s.unchanged("breaks(2), LATE", Rooms::full, y -> s.due("breaks(2)", y.breaks(2), -3));
        s.unchanged("breaks(8), UNKNOWN", Rooms::full, y -> s.due("breaks(8)", y.breaks(8), -1));
        s.unchanged("breaks(3), LATE", Rooms::some, y -> s.due("breaks(3)", y.breaks(3), -3));
        s.unchanged("breaks(0), UNKNOWN", Rooms::nobody, y -> s.due("breaks(0)", y.breaks(0), -1));
    }

    private void joins() {
        howManyPeople();
        theOtherOneIsGone();
        nineTogether();
        joinsRefused();
    }

    private void howManyPeople() {
        s.of(16, "The other one JOINS it: how many PEOPLE it has.");
        LouderRoom x = Check.room("R00G000110G345678");
        s.due("joins(1, 0)", x.joins(1, 0), 7);
        int[] want = {3, 54, 7, 7, 8};
        for (int what = 0; what <= 4; what++) {
            s.due("ring(0, " + what + ")", x.ring(0, what), want[what]);
        }
        LouderRoom ones = Check.room("R00G000110G145191");
        s.due("joins(0, 1) of one and one", ones.joins(0, 1), 2);
        s.due("ring(0, 5), now it says something", ones.ring(0, 5), 2);
    }

    private void theOtherOneIsGone() {
        s.terms(16, "JOINS (the other one is gone, those behind it are one less;");
        int[][] joins = {{0, 3, 0, 1, 2}, {3, 0, 1, 2, 3}, {1, 2, 0, 1, 3}, {2, 1, 0, 2, 3}, {0, 1, 0, 2, 3}};
        for (int[] join : joins) {
            LouderRoom x = Check.room("R00G000110G010110G020110G030110");
            s.due("joins(" + join[0] + ", " + join[1] + ")", x.joins(join[0], join[1]), 2);
            s.due("about(0)", x.about(0), 3);
            for (int ring = 0; ring < 3; ring++) {
                s.due("ring(" + ring + ", 1)", x.ring(ring, 1), join[2 + ring]);
                s.due("ring(" + ring + ", 2)", x.ring(ring, 2), join[2 + ring] == join[0] ? 2 : 1);
            }
            s.due("ring(3, 1)", x.ring(3, 1), -1);
        }
    }

    private void nineTogether() {
        s.terms(16, "9 PEOPLE at most together)");
        for (int n = 1; n <= 9; n++) {
            for (int other = 1; other <= 9; other++) {
                LouderRoom x = Check.room("R00G000" + n + "10G011" + other + "10");
                s.due("joins(0, 1) of " + n + ", " + other, x.joins(0, 1), n + other > 9 ? -4 : n + other);
                s.due("about(1)", x.about(1), n + other);
            }
        }
    }

    private void joinsRefused() {
        s.of(16, "UNKNOWN; BAD: both are one; FULL: more than 9.");
        LouderRoom x = Check.room("R00G000910G011510G022510");
        for (int ring : new int[] {-1, 3, 8, MIN, MAX}) {
            s.due("joins(" + ring + ", 0)", x.joins(ring, 0), -1);
            s.due("joins(0, " + ring + "), UNKNOWN ahead of FULL", x.joins(0, ring), -1);
            s.due("joins(" + ring + ", " + ring + "), UNKNOWN ahead of BAD", x.joins(ring, ring), -1);
        }
        s.due("joins(0, 0), BAD ahead of FULL", x.joins(0, 0), -2);
        s.due("joins(2, 2), BAD ahead of FULL", x.joins(2, 2), -2);
        s.due("joins(1, 2), ten together", x.joins(1, 2), -4);
        s.due("joins(0, 1)", x.joins(0, 1), -4);
        s.due("about(8), no ACTS", x.about(8), 0);
        s.due("joins(0, 0) of a small one", Check.room("R00G000110").joins(0, 0), -2);
        s.unchanged("joins(0, 3), FULL", Rooms::full, y -> s.due("joins(0, 3)", y.joins(0, 3), -4));
        s.unchanged("joins(2, 2), BAD", Rooms::full, y -> s.due("joins(2, 2)", y.joins(2, 2), -2));
        s.unchanged("joins(2, 8), UNKNOWN", Rooms::full, y -> s.due("joins(2, 8)", y.joins(2, 8), -1));
        s.unchanged("joins(-1, 0), UNKNOWN", Rooms::some, y -> s.due("joins(-1, 0)", y.joins(-1, 0), -1));
    }

    private void homes() {
        s.of(17, "It goes HOME: how many RINGS there are.");
        LouderRoom all = Rooms.at(Rooms::full);
        for (int left = 7; left >= 0; left--) {
            s.due("home(" + left + ")", all.home(left), left);
        }
        s.due("home(0) of nobody", all.home(0), -1);
        s.due("about(8)", all.about(8), 10);
        s.terms(17, "goes HOME (gone likewise)");
        for (int gone = 0; gone < 4; gone++) {
            LouderRoom x = Check.room("R00G000110G010210G020310G030410");
            s.due("home(" + gone + ")", x.home(gone), 3);
            for (int ring = 0; ring < 3; ring++) {
                int was = ring < gone ? ring : ring + 1;
                s.due("ring(" + ring + ", 1)", x.ring(ring, 1), was);
                s.due("ring(" + ring + ", 2)", x.ring(ring, 2), was + 1);
            }
            s.due("ring(3, 1)", x.ring(3, 1), -1);
        }
        s.of(17, "UNKNOWN.");
        for (int ring : new int[] {-1, 3, 8, MIN, MAX}) {
            LouderRoom x = Check.room("R00G000110G010210G020310");
            s.due("home(" + ring + ")", x.home(ring), -1);
            s.due("about(0)", x.about(0), 3);
            s.due("about(8)", x.about(8), 0);
        }
        s.unchanged("home(8)", Rooms::full, y -> s.due("home(8)", y.home(8), -1));
        s.unchanged("home(-1)", Rooms::some, y -> s.due("home(-1)", y.home(-1), -1));
        s.unchanged("home(0)", Rooms::nobody, y -> s.due("home(0)", y.home(0), -1));
    }

    private void hushes() {
        s.of(18, "A HUSH: how many had another VOICE.");
        for (int loud = 0; loud <= 8; loud++) {
            StringBuilder text = new StringBuilder("R00");
            for (int i = 0; i < 8; i++) {
                text.append("G0").append(i).append("09").append(i < loud ? 2 + i % 8 : 1).append('0');
            }
            LouderRoom x = Check.room(text.toString());
            s.due("hush(), " + loud + " are loud", x.hush(), loud);
            s.due("hush() again", x.hush(), 0);
            s.due("about(8), both are ACTS", x.about(8), 2);
        }
        s.due("hush() of nobody", new LouderRoom().hush(), 0);
        s.terms(18, "a HUSH (all VOICES are 1)");
        LouderRoom x = Check.room("R08G000990G110180G222220G333340G444990");
        s.due("hush(), NODDING ones and one PERSON too", x.hush(), 5);
        for (int ring = 0; ring < 5; ring++) {
            s.due("ring(" + ring + ", 3)", x.ring(ring, 3), 1);
        }
        s.due("about(3), MUSIC does not hush", x.about(3), 8);
    }

    private void undos() {
        s.of(19, "The last ACT is undone: how many are left.");
        LouderRoom x = Check.room("R00G000990");
        for (int acts = 1; acts <= 10; acts++) {
            x.hush();
        }
        for (int left = 9; left >= 0; left--) {
            s.due("undo()", x.undo(), left);
            s.due("about(8)", x.about(8), left);
        }
        s.due("ring(0, 3), ahead of the first one", x.ring(0, 3), 9);
        s.of(19, "LATE: there is none.");
        s.due("undo(), an undone one is no ACT", x.undo(), -3);
        s.due("undo() of a new one", new LouderRoom().undo(), -3);
        x.hush();
        s.due("undo()", x.undo(), 0);
        s.due("undo()", x.undo(), -3);
        s.unchanged("undo(), LATE", y -> Rooms.told(y, Rooms.SOME), y -> s.due("undo()", y.undo(), -3));
        s.unchanged("undo(), LATE", this::goneOnFrom, y -> s.due("undo()", y.undo(), -3));
        eachUndone();
        musicIsAsItWas();
        eatsAndFollowsStay();
        allElseStays();
    }

    private void goneOnFrom(LouderRoom x) {
        Rooms.some(x);
        x.again(1);
    }

    /** Each ACT, and behind undoing it all RINGS again. */
    private void eachUndone() {
        s.terms(19, "the last one can be undone (RINGS, how loud MUSIC is are as they were ahead of it;");
        Twins.Use[] acts = {LouderRoom::minute, y -> y.breaks(0), y -> y.joins(1, 2), y -> y.home(0), LouderRoom::hush};
        for (int i = 0; i < acts.length; i++) {
            LouderRoom x = Check.room("R13G200539G154424G344318G466270");
            x.music(3, true);
            acts[i].on(x);
            s.due("about(8) behind ACT " + i, x.about(8), 1);
            s.due("undo() of ACT " + i, x.undo(), 0);
            int[][] want = {{2, 0, 5, 3, 9}, {1, 45, 4, 2, 4}, {3, 44, 3, 1, 8}, {4, 66, 2, 7, 0}};
            s.due("about(0)", x.about(0), 4);
            s.due("about(3)", x.about(3), 3);
            for (int ring = 0; ring < 4; ring++) {
                for (int what = 0; what <= 4; what++) {
                    s.due("ring(" + ring + ", " + what + ") behind undo() of ACT " + i, x.ring(ring, what), want[ring][what]);
                }
            }
        }
    }

    private void musicIsAsItWas() {
        s.terms(19, "how loud MUSIC is are as they were ahead of it");
        LouderRoom x = Check.room("R00G400290");
        x.music(2, true);
        x.minute();
        x.minute();
        s.due("about(3)", x.about(3), 4);
        x.undo();
        s.due("about(3)", x.about(3), 3);
        x.music(9, true);
        x.undo();
        s.due("about(3), as ahead of the MINUTE", x.about(3), 2);
        x.music(7, false);
        x.hush();
        x.music(1, false);
        x.undo();
        s.due("about(3), as ahead of the HUSH", x.about(3), 7);
    }

    private void eatsAndFollowsStay() {
        s.terms(19, "EATS, whether MUSIC FOLLOWS stay).");
        for (int e = 0; e <= 9; e += 9) {
            LouderRoom x = Check.room("R45G400290");
            x.hush();
            x.eats(e);
            x.music(2, true);
            x.undo();
            s.due("about(2)", x.about(2), e);
            s.due("about(3)", x.about(3), 5);
            x.minute();
            s.due("about(3), it FOLLOWS", x.about(3), 6);
            x.music(3, false);
            x.undo();
            s.due("about(3)", x.about(3), 5);
            x.minute();
            s.due("about(3), it does not FOLLOW", x.about(3), 5);
        }
    }

    private void allElseStays() {
        s.terms(19, "the last one can be undone");
        LouderRoom x = Check.room("R45G400290S23");
        x.hush();
        x.keep(1);
        x.meter(0, 1);
        x.write(1, 'x');
        s.due("undo()", x.undo(), 0);
        s.due("about(7)", x.about(7), 1);
        s.due("about(9)", x.about(9), 1);
        s.due("about(10)", x.about(10), 14);
        s.due("ring(0, 3)", x.ring(0, 3), 9);
        s.due("again(1)", x.again(1), 1);
        s.due("ring(0, 3), as it was kept", x.ring(0, 3), 1);
    }

    private void rowOfActs() {
        tenAtMost();
        anyActIsOneOfTheRow();
        s.terms(15, "ACTS: MINUTES, a RING that BREAKS (of n");
        LouderRoom x = Check.room("R00G000910G011110G022210");
        s.due("minute()", x.minute(), 1);
        s.due("about(8)", x.about(8), 1);
        s.due("breaks(0)", x.breaks(0), 3);
        s.due("about(8)", x.about(8), 2);
        s.due("joins(1, 2)", x.joins(1, 2), 3);
        s.due("about(8)", x.about(8), 3);
        s.due("home(0)", x.home(0), 2);
        s.due("about(8)", x.about(8), 4);
        s.due("hush()", x.hush(), 1);
        s.due("about(8)", x.about(8), 5);
    }

    private void tenAtMost() {
        s.terms(19, "a row (10 at most; when it is full, the first one is forgotten);");
        for (int acts = 8; acts <= 13; acts++) {
            LouderRoom x = Check.room("R00G000910");
            for (int i = 0; i < acts; i++) {
                x.voice(0, 1 + i % 7);
                x.hush();
            }
            int left = Math.min(10, acts);
            s.due("about(8) behind " + acts, x.about(8), left);
            for (int i = 1; i <= left; i++) {
                s.due("undo() behind " + acts, x.undo(), left - i);
                s.due("ring(0, 3)", x.ring(0, 3), 1 + (acts - i) % 7);
            }
            s.due("undo(), no more", x.undo(), -3);
        }
    }

    /** Ten HUSHES from VOICE 2, the second from VOICE 3; one ACT more, and the first one can't be undone. */
    private void anyActIsOneOfTheRow() {
        s.terms(19, "when it is full, the first one is forgotten");
        Twins.Use[] acts = {LouderRoom::minute, y -> y.breaks(0), y -> y.joins(1, 2), y -> y.home(0), LouderRoom::hush};
        for (int act = 0; act < acts.length; act++) {
            LouderRoom x = Check.room("R00G000420G011110G022210");
            x.hush();
            x.voice(0, 3);
            for (int i = 0; i < 9; i++) {
                x.hush();
            }
            acts[act].on(x);
            s.due("about(8) behind ACT " + act, x.about(8), 10);
            for (int left = 9; left >= 0; left--) {
                s.due("undo()", x.undo(), left);
            }
            s.due("ring(0, 3), behind the first HUSH", x.ring(0, 3), 3);
            s.due("about(0)", x.about(0), 3);
            s.due("undo()", x.undo(), -3);
        }
    }
}
