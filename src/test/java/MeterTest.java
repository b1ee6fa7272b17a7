/** Promises 31 to 33: METERS and what they tell. */
public final class MeterTest {
    private static final Check CHECK = new Check("MeterTest");

    public static void main(String[] args) {
        meter();
        unmeter();
        came();
        cameOfMusic();
        CHECK.end();
    }

    private static void meter() {
        LouderRoom x = new LouderRoom();
        CHECK.due(31, "meter(-1, 0)", x.meter(-1, 0), -2);
        CHECK.due(31, "meter(41, 0)", x.meter(41, 0), -2);
        CHECK.due(31, "meter(0, -1)", x.meter(0, -1), -2);
        CHECK.due(31, "meter(0, 10000)", x.meter(0, 10000), -2);
        CHECK.due(31, "meter(0, 0)", x.meter(0, 0), 1);
        CHECK.due(31, "meter(40, 9999)", x.meter(40, 9999), 2);
        for (int i = 3; i <= 6; i++) {
            CHECK.due(31, "meter(7, 7)", x.meter(7, 7), i);
        }
        CHECK.due(31, "meter(7, 7), FULL", x.meter(7, 7), -4);
        CHECK.due(31, "meter(41, 7), BAD ahead of FULL", x.meter(41, 7), -2);
        CHECK.due(31, "about(9)", x.about(9), 6);
    }

    private static void unmeter() {
        LouderRoom x = new LouderRoom();
        CHECK.due(32, "unmeter()", x.unmeter(), 0);
        x.meter(0, 900);
        x.meter(1, 900);
        CHECK.due(32, "came()", x.came(), 0);
        CHECK.due(32, "unmeter()", x.unmeter(), 2);
        CHECK.due(32, "unmeter()", x.unmeter(), 0);
        CHECK.due(32, "came()", x.came(), 1);
        CHECK.due(32, "meter(0, 0)", x.meter(0, 0), 1);
    }

    /** ECHO of nobody is 0; of the first, 2, 4, 8 .. 512; the second is NODDING, of LOUD 2. */
    private static void came() {
        LouderRoom x = Check.room("R00G000990G499290");
        CHECK.due(33, "came(), no METERS", x.came(), 7);
        came(x, 0, 3, 7);
        came(x, 0, 4, 6);
        came(x, 0, 7, 4);
        came(x, 0, 8, 0);
        came(x, 3, 15, 6);
        came(x, 3, 14, 2);
        came(x, 3, 21, 4);
        came(x, 8, 511, 6);
        came(x, 40, 517, 4);
        came(x, 40, 515, 6);
        came(x, 40, 518, 0);
        x.meter(0, 3);
        x.meter(40, 509);
        CHECK.due(33, "came(), both", x.came(), 2);
        x.meter(40, 513);
        CHECK.due(33, "came(), all three", x.came(), 2);
        x.meter(40, 517);
        CHECK.due(33, "came(), they contradict", x.came(), 0);
        CHECK.due(33, "ring(0, 3), nothing is changed", x.ring(0, 3), 9);
    }

    private static void came(LouderRoom x, int minute, int echo, int want) {
        x.meter(minute, echo);
        CHECK.due(33, "came() by " + minute + ", " + echo, x.came(), want);
        x.unmeter();
    }

    private static void cameOfMusic() {
        LouderRoom x = Check.room("R50G400290");
        x.music(5, true);
        came(x, 0, 21, 0);
        came(x, 0, 20, 2);
        came(x, 0, 16, 3);
        came(x, 1, 8, 3);
        came(x, 4, 4, 3);
        came(x, 5, 5, 2);
        x.music(5, false);
        came(x, 9, 16, 3);
    }
}
