/** Promises 14 to 19: MINUTES, BREAKS, JOINS, HOME, a HUSH, all undone. */
public final class ActsTest {
    private static final Check CHECK = new Check("ActsTest");

    public static void main(String[] args) {
        minute();
        minutesOfKinds();
        music();
        breaks();
        breaksRefused();
        joins();
        home();
        hush();
        undo();
        undoLeavesSome();
        rowOfActs();
        CHECK.end();
    }

    private static void minute() {
        LouderRoom x = Check.room("R32G000230G321425S41");
        CHECK.due(14, "minute()", x.minute(), 2);
        CHECK.due(14, "ring(0, 3), lowered", x.ring(0, 3), 2);
        CHECK.due(14, "ring(1, 3), raised", x.ring(1, 3), 3);
        CHECK.due(14, "about(3)", x.about(3), 2);
        CHECK.due(14, "about(8)", x.about(8), 1);
    }

    /** A RING that is alone: the VOICE behind one MINUTE. */
    private static void alone(String ring, int want) {
        LouderRoom x = Check.room("R00" + ring);
        int was = x.ring(0, 3);
        CHECK.due(14, "minute() of " + ring, x.minute(), was == want ? 0 : 1);
        CHECK.due(14, "ring(0, 3) of " + ring, x.ring(0, 3), want);
    }

    private static void minutesOfKinds() {
        alone("G000910", 2);
        alone("G000980", 9);
        alone("G000990", 9);
        alone("G200910", 3);
        alone("G200980", 9);
        alone("G200990", 9);
        alone("G100910", 1);
        alone("G100919", 2);
        alone("G100911", 2);
        alone("G100950", 5);
        alone("G300910", 1);
        alone("G300930", 3);
        alone("G300919", 2);
        alone("G400919", 1);
        alone("G400250", 5);
        alone("G000150", 5);
        alone("G000250", 4);
        alone("G000210", 1);
        alone("G000450", 4);
        alone("G000850", 5);
        alone("G200250", 4);
        alone("G100250", 4);
    }

    private static void music() {
        LouderRoom x = Check.room("R60G400250");
        x.music(0, true);
        int[] want = {1, 2, 3, 4, 5, 4, 5, 4};
        for (int m : want) {
            CHECK.due(14, "minute(), MUSIC alone is another", x.minute(), 0);
            CHECK.due(14, "about(3)", x.about(3), m);
        }
        LouderRoom most = Check.room("R09G400290");
        most.music(9, true);
        most.minute();
        CHECK.due(14, "about(3), 9 at most", most.about(3), 9);
        LouderRoom like = Check.room("R50G400230");
        like.music(3, true);
        like.minute();
        CHECK.due(14, "about(3), ECHO as LOUD", like.about(3), 3);
        LouderRoom nobody = Check.room("R91");
        nobody.music(1, true);
        nobody.minute();
        CHECK.due(14, "about(3)", nobody.about(3), 0);
        nobody.minute();
        CHECK.due(14, "about(3), 0 at least", nobody.about(3), 0);
    }

    private static void breaks() {
        LouderRoom x = Check.room("R00G300537G110124");
        CHECK.due(15, "breaks(0)", x.breaks(0), 2);
        int[] kept = {3, 0, 2, 3, 7};
        int[] others = {3, 2, 3, 3, 7};
        for (int what = 0; what <= 4; what++) {
            CHECK.due(15, "ring(0, " + what + ")", x.ring(0, what), kept[what]);
            CHECK.due(15, "ring(2, " + what + ")", x.ring(2, what), others[what]);
        }
        CHECK.due(15, "ring(1, 2)", x.ring(1, 2), 1);
        CHECK.due(15, "about(8)", x.about(8), 1);
        LouderRoom four = Check.room("R00G099430");
        CHECK.due(15, "breaks(0) of four", four.breaks(0), 1);
        CHECK.due(15, "ring(0, 2)", four.ring(0, 2), 2);
        CHECK.due(15, "ring(1, 2)", four.ring(1, 2), 2);
        CHECK.due(15, "ring(1, 1)", four.ring(1, 1), 0);
    }

    private static void breaksRefused() {
        LouderRoom x = Check.room("R00G300337G110424");
        CHECK.due(15, "breaks(0) of three", x.breaks(0), -3);
        CHECK.due(15, "breaks(2)", x.breaks(2), -1);
        CHECK.due(15, "breaks(-1)", x.breaks(-1), -1);
        LouderRoom full = Check.room("R00G000910G010310G020910G030910G040910G050910G060910");
        CHECK.due(15, "breaks(0)", full.breaks(0), 7);
        CHECK.due(15, "breaks(0), 8 RINGS", full.breaks(0), -4);
        CHECK.due(15, "breaks(1), LATE ahead of FULL", full.breaks(1), -3);
        CHECK.due(15, "breaks(8)", full.breaks(8), -1);
        CHECK.due(15, "ring(0, 2), nothing is changed", full.ring(0, 2), 4);
        CHECK.due(15, "about(8)", full.about(8), 1);
    }

    private static void joins() {
        LouderRoom x = Check.room("R00G000537G111414G222622G333333");
        CHECK.due(16, "joins(2, 0), more than 9", x.joins(2, 0), -4);
        CHECK.due(16, "joins(2, 1), 10 together", x.joins(2, 1), -4);
        CHECK.due(16, "joins(0, 0)", x.joins(0, 0), -2);
        CHECK.due(16, "joins(4, 0)", x.joins(4, 0), -1);
        CHECK.due(16, "joins(0, 4)", x.joins(0, 4), -1);
        CHECK.due(16, "joins(4, 4), UNKNOWN ahead of BAD", x.joins(4, 4), -1);
        CHECK.due(16, "joins(-1, 0)", x.joins(-1, 0), -1);
        CHECK.due(16, "about(8), nothing is changed", x.about(8), 0);
        CHECK.due(16, "joins(1, 0), 9 together", x.joins(1, 0), 9);
        CHECK.due(16, "about(0)", x.about(0), 3);
        int[][] want = {{1, 11, 9, 1, 4}, {2, 22, 6, 2, 2}, {3, 33, 3, 3, 3}};
        for (int ring = 0; ring < 3; ring++) {
            for (int what = 0; what <= 4; what++) {
                CHECK.due(16, "ring(" + ring + ", " + what + ")", x.ring(ring, what), want[ring][what]);
            }
        }
        CHECK.due(16, "joins(1, 2), one behind it", x.joins(1, 2), 9);
        CHECK.due(16, "ring(1, 1)", x.ring(1, 1), 22);
        CHECK.due(16, "about(8)", x.about(8), 2);
    }

    private static void home() {
        LouderRoom x = Check.room("R00G000537G111414G222622");
        CHECK.due(17, "home(3)", x.home(3), -1);
        CHECK.due(17, "home(-1)", x.home(-1), -1);
        CHECK.due(17, "home(0)", x.home(0), 2);
        CHECK.due(17, "ring(0, 1)", x.ring(0, 1), 11);
        CHECK.due(17, "ring(1, 1)", x.ring(1, 1), 22);
        CHECK.due(17, "ring(1, 2)", x.ring(1, 2), 6);
        CHECK.due(17, "ring(2, 1)", x.ring(2, 1), -1);
        CHECK.due(17, "home(1)", x.home(1), 1);
        CHECK.due(17, "home(0)", x.home(0), 0);
        CHECK.due(17, "home(0) of nobody", x.home(0), -1);
        CHECK.due(17, "about(8)", x.about(8), 3);
        CHECK.due(17, "undo()", x.undo(), 2);
        CHECK.due(17, "ring(0, 1)", x.ring(0, 1), 11);
        CHECK.due(17, "about(1), of those who are there", x.about(1), 4);
        LouderRoom full = Check.room("R00G000110G010210G020310G030410G040510G050610G060710G070810");
        CHECK.due(17, "home(0) of 8", full.home(0), 7);
        CHECK.due(17, "about(1)", full.about(1), 35);
        CHECK.due(17, "ring(6, 2)", full.ring(6, 2), 8);
        CHECK.due(17, "home(6), the last one", full.home(6), 6);
        CHECK.due(17, "ring(5, 2)", full.ring(5, 2), 7);
    }

    private static void hush() {
        LouderRoom x = Check.room("R05G000210G411290G222170");
        CHECK.due(18, "hush()", x.hush(), 2);
        for (int ring = 0; ring < 3; ring++) {
            CHECK.due(18, "ring(" + ring + ", 3)", x.ring(ring, 3), 1);
        }
        CHECK.due(18, "about(3), MUSIC goes on", x.about(3), 5);
        CHECK.due(18, "hush()", x.hush(), 0);
        CHECK.due(18, "about(8)", x.about(8), 2);
    }

    private static void undo() {
        LouderRoom x = Check.room("R02G000530G411290");
        x.breaks(0);
        x.joins(1, 0);
        x.hush();
        CHECK.due(19, "undo(), the HUSH", x.undo(), 2);
        CHECK.due(19, "ring(0, 3)", x.ring(0, 3), 9);
        CHECK.due(19, "undo(), the JOINS", x.undo(), 1);
        CHECK.due(19, "ring(0, 2)", x.ring(0, 2), 2);
        CHECK.due(19, "ring(1, 2)", x.ring(1, 2), 2);
        CHECK.due(19, "undo(), the BREAKS", x.undo(), 0);
        CHECK.due(19, "ring(0, 2)", x.ring(0, 2), 5);
        CHECK.due(19, "about(0)", x.about(0), 2);
        CHECK.due(19, "undo()", x.undo(), -3);
        x.home(0);
        CHECK.due(19, "undo(), HOME", x.undo(), 0);
        CHECK.due(19, "ring(0, 4)", x.ring(0, 4), 0);
        CHECK.due(19, "ring(1, 0)", x.ring(1, 0), 4);
    }

    private static void undoLeavesSome() {
        LouderRoom x = Check.room("R02G000530G411290");
        x.minute();
        x.voice(1, 4);
        x.eats(7);
        x.music(8, true);
        CHECK.due(19, "undo()", x.undo(), 0);
        CHECK.due(19, "ring(1, 3), RINGS are as ahead of it", x.ring(1, 3), 9);
        CHECK.due(19, "about(3), so is how loud MUSIC is", x.about(3), 2);
        CHECK.due(19, "about(2), EATS stays", x.about(2), 7);
        x.minute();
        CHECK.due(19, "about(3), that it FOLLOWS stays", x.about(3), 3);
    }

    private static void rowOfActs() {
        LouderRoom x = Check.room("R00G000910");
        for (int i = 1; i <= 12; i++) {
            x.voice(0, 1 + i % 7);
            x.hush();
            CHECK.due(19, "about(8)", x.about(8), Math.min(10, i));
        }
        int[] voices = {6, 5, 4, 3, 2, 1, 7, 6, 5, 4};
        for (int i = 0; i < 10; i++) {
            CHECK.due(19, "undo()", x.undo(), 9 - i);
            CHECK.due(19, "ring(0, 3)", x.ring(0, 3), voices[i]);
        }
        CHECK.due(19, "undo(), the first are forgotten", x.undo(), -3);
        CHECK.due(19, "ring(0, 3)", x.ring(0, 3), 4);
    }
}
