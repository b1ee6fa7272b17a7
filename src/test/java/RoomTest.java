/** Promises 6 to 13: what THE ROOM is like, and what may be otherwise. */
public final class RoomTest {
    private static final Check CHECK = new Check("RoomTest");

    public static void main(String[] args) {
        about();
        ring();
        ringsOfKinds();
        stuff();
        noise();
        from();
        voice();
        music();
        eats();
        CHECK.end();
    }

    /** RINGS at 0, 0 (LOUD 8) and 2, 1 (LOUD 4), MUSIC of LOUD 4: ECHO is 16 times 7 by 10, 11. */
    private static LouderRoom two() {
        return Check.room("R32G000230G321425S41");
    }

    private static void about() {
        LouderRoom x = two();
        x.minute();
        x.undo();
        x.hush();
        x.undo();
        x.meter(3, 3);
        int[] want = {2, 6, 3, 2, 11, 12, 1, 1, 0, 1, 20};
        for (int what = 0; what < want.length; what++) {
            CHECK.due(6, "about(" + what + ")", x.about(what), want[what]);
        }
        x.hush();
        CHECK.due(6, "about(8)", x.about(8), 1);
        CHECK.due(6, "about(-1)", x.about(-1), -2);
        CHECK.due(6, "about(11)", x.about(11), -2);
        CHECK.due(6, "about(MAX)", x.about(Integer.MAX_VALUE), -2);
        CHECK.due(6, "about(6), one PERSON, NODDING", Check.room("R00G000190G111110G422999G043999").about(6), 7);
        CHECK.due(6, "about(5), one PERSON says nothing", Check.room("R00G000190G422930").about(5), 8);
        CHECK.due(6, "about(4), MUSIC alone", Check.room("R09").about(4), 512);
        CHECK.due(6, "about(4), cut", Check.room("R91G000210").about(4), 0);
    }

    private static void ring() {
        LouderRoom x = two();
        int[] first = {0, 0, 2, 3, 0, 8, 32, 14, 1};
        int[] second = {3, 12, 4, 2, 5, 4, 16, 17, 0};
        for (int what = 0; what <= 8; what++) {
            CHECK.due(7, "ring(0, " + what + ")", x.ring(0, what), first[what]);
            CHECK.due(7, "ring(1, " + what + ")", x.ring(1, what), second[what]);
        }
        CHECK.due(7, "ring(2, 0)", x.ring(2, 0), -1);
        CHECK.due(7, "ring(-1, 0)", x.ring(-1, 0), -1);
        CHECK.due(7, "ring(2, 9), UNKNOWN ahead of BAD", x.ring(2, 9), -1);
        CHECK.due(7, "ring(0, 9)", x.ring(0, 9), -2);
        CHECK.due(7, "ring(1, -1)", x.ring(1, -1), -2);
    }

    private static void ringsOfKinds() {
        CHECK.due(7, "SOUND of three", Check.room("R00G000310").ring(0, 6), 5);
        CHECK.due(7, "SOUND of three LEANING", Check.room("R00G300310").ring(0, 6), 16);
        CHECK.due(7, "SOUND of two LEANING", Check.room("R00G300210").ring(0, 6), 16);
        CHECK.due(7, "SOUND of nine LEANING", Check.room("R00G300910").ring(0, 6), 2);
        CHECK.due(7, "SOUND of nine RAISED", Check.room("R00G200950").ring(0, 6), 28);
        LouderRoom one = Check.room("R09G000159");
        CHECK.due(7, "LOUD of one PERSON", one.ring(0, 5), 0);
        CHECK.due(7, "SOUND of one PERSON", one.ring(0, 6), 0);
        CHECK.due(7, "NOISE for one PERSON", one.ring(0, 7), 512);
        CHECK.due(7, "one PERSON HEARS", one.ring(0, 8), 1);
        CHECK.due(7, "NODDING HEARS", Check.room("R00G400999").ring(0, 8), 1);
        CHECK.due(7, "eight HEAR, no less", Check.room("R00G000810").ring(0, 8), 1);
        CHECK.due(7, "eight of AGE 1 do not", Check.room("R00G000811").ring(0, 8), 0);
        CHECK.due(7, "nine do not", Check.room("R00G000910").ring(0, 8), 0);
        CHECK.due(7, "LOUD of VOICE 9", Check.room("R00G000990").ring(0, 5), 512);
    }

    private static void stuff() {
        LouderRoom x = Check.room("R00S41S09G000110S95");
        CHECK.due(8, "stuff(0, 0)", x.stuff(0, 0), 4);
        CHECK.due(8, "stuff(0, 1)", x.stuff(0, 1), 1);
        CHECK.due(8, "stuff(1, 0)", x.stuff(1, 0), 0);
        CHECK.due(8, "stuff(1, 1)", x.stuff(1, 1), 9);
        CHECK.due(8, "stuff(2, 0)", x.stuff(2, 0), 9);
        CHECK.due(8, "stuff(2, 1)", x.stuff(2, 1), 5);
        CHECK.due(8, "stuff(3, 0)", x.stuff(3, 0), -1);
        CHECK.due(8, "stuff(-1, 0)", x.stuff(-1, 0), -1);
        CHECK.due(8, "stuff(3, 2), UNKNOWN ahead of BAD", x.stuff(3, 2), -1);
        CHECK.due(8, "stuff(0, 2)", x.stuff(0, 2), -2);
        CHECK.due(8, "stuff(0, -1)", x.stuff(0, -1), -2);
        CHECK.due(8, "about(2), stuffs are not had", x.about(2), 0);
    }

    private static void noise() {
        LouderRoom x = two();
        CHECK.due(9, "noise(0, 0)", x.noise(0, 0), 14);
        CHECK.due(9, "noise(2, 1)", x.noise(2, 1), 17);
        CHECK.due(9, "noise(1, 0)", x.noise(1, 0), 51);
        CHECK.due(9, "noise(2, 0)", x.noise(2, 0), 35);
        CHECK.due(9, "noise(0, 2)", x.noise(0, 2), 22);
        CHECK.due(9, "noise(9, 9)", x.noise(9, 9), 11);
        CHECK.due(9, "noise(-1, 0)", x.noise(-1, 0), -2);
        CHECK.due(9, "noise(10, 0)", x.noise(10, 0), -2);
        CHECK.due(9, "noise(0, -1)", x.noise(0, -1), -2);
        CHECK.due(9, "noise(0, 10)", x.noise(0, 10), -2);
        CHECK.due(9, "noise(3, MAX)", x.noise(3, Integer.MAX_VALUE), -2);
        CHECK.due(9, "noise(3, 3) of nobody", new LouderRoom().noise(3, 3), 0);
    }

    private static void from() {
        LouderRoom x = two();
        CHECK.due(10, "from(0, 0, 0), its own", x.from(0, 0, 0), 0);
        CHECK.due(10, "from(0, 1, 0)", x.from(0, 1, 0), 32);
        CHECK.due(10, "from(0, 2, 1)", x.from(0, 2, 1), 6);
        CHECK.due(10, "from(1, 0, 0)", x.from(1, 0, 0), 3);
        CHECK.due(10, "from(1, 0, 1)", x.from(1, 0, 1), 4);
        CHECK.due(10, "from(1, 1, 0)", x.from(1, 1, 0), 8);
        CHECK.due(10, "from(0, 9, 9)", x.from(0, 9, 9), 0);
        CHECK.due(10, "from(2, 0, 0)", x.from(2, 0, 0), -1);
        CHECK.due(10, "from(-1, 0, 0)", x.from(-1, 0, 0), -1);
        CHECK.due(10, "from(2, 10, 0), UNKNOWN ahead of BAD", x.from(2, 10, 0), -1);
        CHECK.due(10, "from(0, 10, 0)", x.from(0, 10, 0), -2);
        CHECK.due(10, "from(0, -1, 0)", x.from(0, -1, 0), -2);
        CHECK.due(10, "from(0, 0, 10)", x.from(0, 0, 10), -2);
        CHECK.due(10, "from(0, 0, -1)", x.from(0, 0, -1), -2);
        CHECK.due(10, "from one PERSON", Check.room("R00G000190").from(0, 1, 0), 0);
    }

    private static void voice() {
        LouderRoom x = two();
        CHECK.due(11, "voice(0, 9)", x.voice(0, 9), 3);
        CHECK.due(11, "voice(0, 1)", x.voice(0, 1), 9);
        CHECK.due(11, "voice(0, 1)", x.voice(0, 1), 1);
        CHECK.due(11, "ring(0, 5)", x.ring(0, 5), 2);
        CHECK.due(11, "voice(2, 1)", x.voice(2, 1), -1);
        CHECK.due(11, "voice(-1, 1)", x.voice(-1, 1), -1);
        CHECK.due(11, "voice(2, 0), UNKNOWN ahead of BAD", x.voice(2, 0), -1);
        CHECK.due(11, "voice(1, 0)", x.voice(1, 0), -2);
        CHECK.due(11, "voice(1, 10)", x.voice(1, 10), -2);
        CHECK.due(11, "ring(1, 3), nothing is changed", x.ring(1, 3), 2);
        CHECK.due(11, "about(8), it is no ACT", x.about(8), 0);
    }

    private static void music() {
        LouderRoom x = two();
        CHECK.due(12, "music(9, false)", x.music(9, false), 2);
        CHECK.due(12, "about(4)", x.about(4), 366);
        CHECK.due(12, "music(0, false)", x.music(0, false), 9);
        CHECK.due(12, "about(4), MUSIC 0 is not LOUD", x.about(4), 8);
        CHECK.due(12, "music(-1, true)", x.music(-1, true), -2);
        CHECK.due(12, "music(10, true)", x.music(10, true), -2);
        x.minute();
        CHECK.due(12, "about(3), it does not FOLLOW", x.about(3), 0);
        CHECK.due(12, "music(1, true)", x.music(1, true), 0);
        x.minute();
        CHECK.due(12, "about(3), it FOLLOWS", x.about(3), 2);
        CHECK.due(12, "music(1, false)", x.music(1, false), 2);
        x.minute();
        CHECK.due(12, "about(3), it does not any more", x.about(3), 1);
        CHECK.due(12, "about(8), it is no ACT", x.about(8), 3);
    }

    private static void eats() {
        LouderRoom x = two();
        CHECK.due(13, "eats(0)", x.eats(0), 3);
        CHECK.due(13, "about(4)", x.about(4), 16);
        CHECK.due(13, "eats(9)", x.eats(9), 0);
        CHECK.due(13, "about(4)", x.about(4), 1);
        CHECK.due(13, "eats(-1)", x.eats(-1), -2);
        CHECK.due(13, "eats(10)", x.eats(10), -2);
        CHECK.due(13, "about(2)", x.about(2), 9);
        CHECK.due(13, "about(8), it is no ACT", x.about(8), 0);
    }
}
