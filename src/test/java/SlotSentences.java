/** Sentences of promises 34 and 35, and of refusals. */
final class SlotSentences {
    private static final int MIN = Integer.MIN_VALUE, MAX = Integer.MAX_VALUE;

    private final Sentences s;

    private SlotSentences(Sentences s) {
        this.s = s;
    }

    static void all(Sentences s) {
        SlotSentences tests = new SlotSentences(s);
        tests.keeps();
        tests.agains();
        tests.refusals();
    }

    private void keeps() {
        s.of(34, "They are kept: how many RINGS.");
        for (int rings = 0; rings <= 8; rings++) {
            LouderRoom x = Check.room(Rooms.LONGEST.substring(0, 3 + 7 * rings));
            s.due("keep(0) of " + rings, x.keep(0), rings);
            s.due("keep(1) of " + rings, x.keep(1), rings);
            s.due("about(8), it is no ACT", x.about(8), 0);
        }
        LouderRoom x = Check.room("R00G000210G099290");
        x.keep(0);
        x.home(0);
        s.due("keep(0), in place of what was kept", x.keep(0), 1);
        s.due("about(8), ACTS go on", x.about(8), 1);
        s.due("undo()", x.undo(), 0);
        s.due("again(0)", x.again(0), 1);
        s.due("ring(0, 1)", x.ring(0, 1), 99);
        s.of(34, "UNKNOWN.");
        for (int slot : new int[] {-1, 2, 3, 32, MIN, MAX}) {
            s.due("keep(" + slot + ")", x.keep(slot), -1);
        }
        s.unchanged("keep(2)", Rooms::full, y -> s.due("keep(2)", y.keep(2), -1));
        s.unchanged("keep(-1)", Rooms::some, y -> s.due("keep(-1)", y.keep(-1), -1));
        s.unchanged("keep(2)", Rooms::nobody, y -> s.due("keep(2)", y.keep(2), -1));
    }

    private void agains() {
        asTheyWereKept();
        slotsZeroToOne();
        ringsEatsMusicFollows();
        noActsWhenOneGoesOn();
        whatSlotsDoNotKeep();
        againRefused();
    }

    private void asTheyWereKept() {
        s.of(35, "They are as they were kept: how many RINGS.");
        for (int rings = 0; rings <= 8; rings++) {
            LouderRoom x = Check.room(Rooms.LONGEST.substring(0, 3 + 7 * rings));
            LouderRoom kept = Check.room(Rooms.LONGEST.substring(0, 3 + 7 * rings));
            x.keep(1);
            x.hush();
            for (int i = 0; i < rings; i++) {
                x.home(0);
            }
            s.due("about(0)", x.about(0), 0);
            s.due("again(1)", x.again(1), rings);
            for (int ring = 0; ring <= rings; ring++) {
                for (int what = 0; what <= 4; what++) {
                    s.due("ring(" + ring + ", " + what + ")", x.ring(ring, what), kept.ring(ring, what));
                }
            }
            s.due("again(1), it is kept still", x.again(1), rings);
        }
    }

    private void slotsZeroToOne() {
        s.terms(35, "SLOTS 0 .. 1 keep RINGS");
        LouderRoom x = Check.room("R00G000210G099290");
        s.due("keep(0)", x.keep(0), 2);
        x.home(0);
        s.due("keep(1)", x.keep(1), 1);
        x.home(0);
        s.due("again(0)", x.again(0), 2);
        s.due("again(1)", x.again(1), 1);
        s.due("again(0)", x.again(0), 2);
        x.voice(0, 5);
        s.due("again(0), what is done since is not kept", x.again(0), 2);
        s.due("ring(0, 3)", x.ring(0, 3), 1);
    }

    private void ringsEatsMusicFollows() {
        s.terms(35, "keep RINGS, EATS, MUSIC, whether it FOLLOWS");
        for (int follows = 0; follows <= 1; follows++) {
            LouderRoom x = Check.room("R45G400290");
            x.music(6, follows == 1);
            x.eats(0);
            x.keep(0);
            x.music(2, follows == 0);
            x.eats(9);
            x.voice(0, 1);
            s.due("again(0)", x.again(0), 1);
            s.due("about(2)", x.about(2), 0);
            s.due("about(3)", x.about(3), 6);
            s.due("ring(0, 3)", x.ring(0, 3), 9);
            x.minute();
            s.due("about(3), whether it FOLLOWS", x.about(3), 6 + follows);
        }
    }

    private void noActsWhenOneGoesOn() {
        s.terms(35, "(no ACTS when one goes on).");
        for (int acts = 0; acts <= 11; acts++) {
            LouderRoom x = Check.room("R45G400290");
            x.keep(0);
            for (int i = 0; i < acts; i++) {
                x.hush();
            }
            s.due("about(8)", x.about(8), Math.min(10, acts));
            x.again(0);
            s.due("about(8)", x.about(8), 0);
            s.due("undo()", x.undo(), -3);
            x.hush();
            s.due("about(8)", x.about(8), 1);
            s.due("undo()", x.undo(), 0);
            s.due("ring(0, 3)", x.ring(0, 3), 9);
        }
    }

    private void whatSlotsDoNotKeep() {
        s.terms(35, "SLOTS 0 .. 1 keep RINGS, EATS, MUSIC, whether it FOLLOWS");
        LouderRoom x = Check.room("R45G400290S11S22");
        x.keep(0);
        x.meter(1, 1);
        x.write(1, 'x');
        x.again(0);
        s.due("about(7), STUFFS stay", x.about(7), 2);
        s.due("about(9), METERS stay", x.about(9), 1);
        s.due("about(10), THE TEXT stays", x.about(10), 17);
        s.due("fault()", x.fault(), 16);
    }

    private void againRefused() {
        s.of(35, "UNKNOWN; LATE: none were kept.");
        LouderRoom x = Check.room("R45G400290");
        for (int slot : new int[] {-1, 2, 3, 32, MIN, MAX}) {
            s.due("again(" + slot + ")", x.again(slot), -1);
        }
        s.due("again(0)", x.again(0), -3);
        s.due("again(1)", x.again(1), -3);
        x.keep(1);
        s.due("again(0), none were kept there", x.again(0), -3);
        s.due("again(1)", x.again(1), 1);
        LouderRoom nobody = new LouderRoom();
        s.due("keep(0) of nobody", nobody.keep(0), 0);
        s.due("again(0), nobody was kept", nobody.again(0), 0);
        s.due("again(1)", nobody.again(1), -3);
        s.unchanged("again(0), LATE", Rooms::some, y -> s.due("again(0)", y.again(0), -3));
        s.unchanged("again(2), UNKNOWN", Rooms::full, y -> s.due("again(2)", y.again(2), -1));
        s.unchanged("again(1), LATE", Rooms::nobody, y -> s.due("again(1)", y.again(1), -3));
    }

    private void refusals() {
        s.terms(0, "REFUSALS: UNKNOWN -1 (there is no such RING, STUFF, SLOT), BAD -2, LATE -3, FULL -4.");
        s.due("UNKNOWN", LouderRoom.UNKNOWN, -1);
        s.due("BAD", LouderRoom.BAD, -2);
        s.due("LATE", LouderRoom.LATE, -3);
        s.due("FULL", LouderRoom.FULL, -4);
        LouderRoom x = new LouderRoom();
        s.due("ring(0, 0), no such RING", x.ring(0, 0), LouderRoom.UNKNOWN);
        s.due("stuff(0, 0), no such STUFF", x.stuff(0, 0), LouderRoom.UNKNOWN);
        s.due("keep(2), no such SLOT", x.keep(2), LouderRoom.UNKNOWN);
        s.terms(0, "NONE is -9.");
        s.due("NONE", LouderRoom.NONE, -9);
        s.due("tooMany()", x.tooMany(), LouderRoom.NONE);
        s.terms(0, "Of several what is told first.");
        LouderRoom full = Check.room(Rooms.LONGEST);
        s.due("ring(8, 9): UNKNOWN, BAD", full.ring(8, 9), -1);
        s.due("stuff(5, 2): UNKNOWN, BAD", full.stuff(5, 2), -1);
        s.due("from(8, 10, 10): UNKNOWN, BAD", full.from(8, 10, 10), -1);
        s.due("voice(8, 0): UNKNOWN, BAD", full.voice(8, 0), -1);
        s.due("breaks(8): UNKNOWN, FULL", full.breaks(8), -1);
        s.due("breaks(2): LATE, FULL", full.breaks(2), -3);
        s.due("joins(8, 8): UNKNOWN, BAD", full.joins(8, 8), -1);
        s.due("joins(0, 0): BAD, FULL", full.joins(0, 0), -2);
        s.due("chance(8, 11, true): UNKNOWN, BAD", full.chance(8, 11, true), -1);
        s.due("again(2): UNKNOWN, LATE", full.again(2), -1);
        s.terms(0, "What is refused changes nothing.");
        for (Twins.Use before : new Twins.Use[] {Rooms::full, Rooms::some, Rooms::nobody}) {
            s.unchanged("all that is refused", before, SlotSentences::refuseAll);
        }
    }

    /** Each call by which something could be changed, with what is refused whatever came ahead of it. */
    private static void refuseAll(LouderRoom x) {
        x.write(9, 1);
        x.room();
        x.voice(-1, 5);
        x.voice(0, 10);
        x.music(10, true);
        x.music(-1, false);
        x.eats(10);
        x.breaks(8);
        x.joins(0, 0);
        x.joins(0, 8);
        x.joins(-1, 0);
        x.home(8);
        x.home(-1);
        x.meter(41, 5);
        x.meter(5, -1);
        x.keep(2);
        x.again(-1);
    }
}
