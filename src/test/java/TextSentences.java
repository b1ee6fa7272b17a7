/** Sentences of promises 1 to 5. */
final class TextSentences {
    private final Sentences s;

    private TextSentences(Sentences s) {
        this.s = s;
    }

    static void all(Sentences s) {
        TextSentences tests = new TextSentences(s);
        tests.newObjects();
        tests.writes();
        tests.wipes();
        tests.faults();
        tests.fields();
        tests.faultsOfMany();
        tests.rooms();
    }

    private void newObjects() {
        nobodyNothing();
        nothingToUndoNorToGoOnFrom();
        atFirstEatsAndMusic();
        calls512();
    }

    private void nobodyNothing() {
        s.of(1, "Nobody, nothing.");
        LouderRoom x = new LouderRoom();
        for (int what = 0; what <= 10; what++) {
            s.due("about(" + what + ")", x.about(what), 0);
        }
        s.due("ring(0, 0)", x.ring(0, 0), -1);
        s.due("stuff(0, 0)", x.stuff(0, 0), -1);
        s.due("came()", x.came(), 1);
        s.due("fault()", x.fault(), 0);
        LouderRoom other = Check.room("R32G000230");
        s.due("about(0), it shares nothing with another one", x.about(0), 0);
        s.due("about(0) of the other one", other.about(0), 1);
    }

    private void nothingToUndoNorToGoOnFrom() {
        s.of(1, "Nobody, nothing.");
        LouderRoom x = new LouderRoom();
        s.due("undo()", x.undo(), -3);
        s.due("again(0)", x.again(0), -3);
        s.due("again(1)", x.again(1), -3);
        s.due("room(), THE TEXT is empty", x.room(), -3);
        s.due("unmeter()", x.unmeter(), 0);
        s.due("wipe()", x.wipe(), 0);
    }

    private void atFirstEatsAndMusic() {
        s.terms(1, "At first EATS and MUSIC are 0, there is nobody.");
        LouderRoom x = new LouderRoom();
        s.due("eats(0), what it was", x.eats(0), 0);
        s.due("music(0, false), what it was", x.music(0, false), 0);
        s.due("home(0)", x.home(0), -1);
        s.due("noise(9, 9)", x.noise(9, 9), 0);
    }

    private void calls512() {
        s.of(0, "An object is used for at most 512 calls after it has been made; what later calls answer is free.");
        LouderRoom x = Check.room("R00G000990");
        int calls = 11;
        for (; calls < 511; calls++) {
            s.due("hush() and minute() by turns", calls % 2 == 0 ? x.minute() : x.hush(), 1);
        }
        s.due("about(8), the last call", x.about(8), 10);
    }

    private void writes() {
        oneToEightBytes();
        lowestOfNumber();
        highestFirst();
        comeBehind();
        howLongItIs();
        justEightyBytes();
        badAheadOfFull();
        refusedWrites();
    }

    private void oneToEightBytes() {
        s.of(2, "n bytes (1 .. 8) of v");
        for (int n = 1; n <= 8; n++) {
            LouderRoom x = new LouderRoom();
            s.due("write(" + n + ", ..)", x.write(n, Rooms.packed("R00S11S2".substring(0, n))), n);
            s.due("fault() of " + n, x.fault(), n == 3 || n == 6 ? -9 : n);
        }
        int[] bad = {0, -1, 9, 10, 80, Integer.MIN_VALUE, Integer.MAX_VALUE};
        for (int n : bad) {
            s.due("write(" + n + ", ..)", new LouderRoom().write(n, 'R'), -2);
        }
    }

    private void lowestOfNumber() {
        s.of(2, "the lowest n");
        for (long high : new long[] {0, -1, 0x5252525252525252L, Long.MIN_VALUE, Long.MAX_VALUE}) {
            LouderRoom x = new LouderRoom();
            s.due("write(3, what is higher is set aside)", x.write(3, high << 24 | Rooms.packed("R52")), 3);
            s.due("room()", x.room(), 0);
            s.due("about(2)", x.about(2), 5);
            s.due("about(3)", x.about(3), 2);
            s.due("about(10)", x.about(10), 3);
        }
    }

    private void highestFirst() {
        s.of(2, "the highest of these first");
        LouderRoom x = new LouderRoom();
        x.write(8, Rooms.packed("R36S14S7"));
        x.write(1, '9');
        s.due("room()", x.room(), 0);
        s.due("about(2)", x.about(2), 3);
        s.due("about(3)", x.about(3), 6);
        s.due("stuff(0, 0)", x.stuff(0, 0), 1);
        s.due("stuff(0, 1)", x.stuff(0, 1), 4);
        s.due("stuff(1, 0)", x.stuff(1, 0), 7);
        s.due("stuff(1, 1)", x.stuff(1, 1), 9);
        LouderRoom negative = new LouderRoom();
        negative.write(8, 0xff00000000000000L | Rooms.packed("R00"));
        s.due("fault(), the first of 8 is a byte of 255", negative.fault(), 0);
    }

    private void comeBehind() {
        s.of(2, "come behind THE TEXT");
        LouderRoom x = new LouderRoom();
        x.write(1, 'R');
        s.due("fault()", x.fault(), 1);
        x.write(1, '5');
        s.due("fault()", x.fault(), 2);
        x.write(1, '7');
        s.due("fault()", x.fault(), -9);
        x.write(2, 'x' << 8 | 'R');
        s.due("fault()", x.fault(), 3);
    }

    private void howLongItIs() {
        s.of(2, "how long it is.");
        LouderRoom x = new LouderRoom();
        s.due("write(1, 0)", x.write(1, 0), 1);
        s.due("write(8, 0)", x.write(8, 0), 9);
        s.due("write(2, 0)", x.write(2, 0), 11);
        s.due("about(10)", x.about(10), 11);
    }

    private void justEightyBytes() {
        s.terms(2, "THE TEXT is bytes (80 at most).");
        s.due("write(1, 0), 80 bytes", longText(79).write(1, 0), 80);
        s.due("write(1, 0), 81 bytes", longText(80).write(1, 0), -4);
        s.of(2, "BAD; FULL: it would be longer than 80 (nothing comes).");
        for (int n = 1; n <= 8; n++) {
            LouderRoom x = longText(80 - n);
            s.due("write(" + n + ", 0), 80 bytes", x.write(n, 0), 80);
            s.due("write(1, 0), 81 bytes", x.write(1, 0), -4);
            LouderRoom over = longText(81 - n);
            s.due("write(" + n + ", 0), 81 bytes", over.write(n, 0), -4);
            s.due("about(10), nothing comes", over.about(10), 81 - n);
            if (n > 1) {
                s.due("write(" + (n - 1) + ", 0) comes", over.write(n - 1, 0), 80);
            }
        }
    }

    private static LouderRoom longText(int bytes) {
        LouderRoom x = new LouderRoom();
        for (int i = 0; i < bytes; i++) {
            x.write(1, 'R');
        }
        return x;
    }

    private void badAheadOfFull() {
        s.terms(2, "Of several what is told first.");
        LouderRoom x = longText(80);
        s.due("write(9, 0), BAD and FULL", x.write(9, 0), -2);
        s.due("write(0, 0), BAD", x.write(0, 0), -2);
        s.due("write(8, 0), FULL", x.write(8, 0), -4);
    }

    private void refusedWrites() {
        s.terms(2, "What is refused changes nothing.");
        s.unchanged("write(1, ..), FULL", Rooms::full, x -> s.due("write(1, 0)", x.write(1, 0), -4));
        s.unchanged("write(8, ..), FULL", Rooms::full, x -> s.due("write(8, -1)", x.write(8, -1), -4));
        s.unchanged("write(9, ..), BAD", Rooms::some, x -> s.due("write(9, -1)", x.write(9, -1), -2));
        s.unchanged("write(0, ..), BAD", Rooms::nobody, x -> s.due("write(0, 48)", x.write(0, 48), -2));
        LouderRoom whole = new LouderRoom();
        Rooms.told(whole, Rooms.LONGEST);
        s.due("write(7, 0), 81 bytes", whole.write(7, 0), -4);
        s.due("fault(), no byte came", whole.fault(), -9);
        s.due("write(6, 0), 80 bytes", whole.write(6, 0), 80);
        s.due("fault()", whole.fault(), 74);
    }

    private void wipes() {
        s.of(3, "THE TEXT is empty: how long it was.");
        for (int length : new int[] {0, 1, 79, 80}) {
            LouderRoom x = longText(length);
            s.due("wipe() of " + length, x.wipe(), length);
            s.due("wipe() again", x.wipe(), 0);
            s.due("about(10)", x.about(10), 0);
            s.due("fault()", x.fault(), 0);
            s.due("write(8, ..), none of it is left", x.write(8, Rooms.packed("R00S11S2")), 8);
            s.due("fault()", x.fault(), 8);
        }
        theRoomStays();
    }

    private void theRoomStays() {
        s.of(3, "THE TEXT is empty");
        LouderRoom x = Rooms.at(Rooms::full);
        s.due("wipe()", x.wipe(), 80);
        int[] want = {8, x.about(1), 4, x.about(3), x.about(4), x.about(5), x.about(6), 5, 10, 6, 0};
        for (int what = 0; what <= 10; what++) {
            s.due("about(" + what + ")", x.about(what), want[what]);
        }
        s.due("again(0)", x.again(0), 8);
    }

    private void faultOf(String text, int want) {
        LouderRoom x = new LouderRoom();
        Check.tell(x, text);
        s.due("fault() of " + text, x.fault(), want);
        s.due("room() of " + text + " is LATE", x.room() == -3 ? 1 : 0, want == -9 ? 0 : 1);
    }

    private void faults() {
        faultOrNone();
        theFirstByte();
        whateverCameBehind();
        onlyNotAtItsEnd();
        noneAtAll();
        partsNoneOrMore();
    }

    private void faultOrNone() {
        s.of(4, "FAULT; NONE.");
        faultOf("R0", 2);
        faultOf("R00", -9);
        faultOf("R00x", 3);
    }

    private void theFirstByte() {
        s.terms(4, "FAULT: the place (from 0) of the first byte by which THE TEXT can be no ROOM");
        faultOf("x", 0);
        faultOf("xR00", 0);
        faultOf("Rx0", 1);
        faultOf("R0xG", 2);
        faultOf("R00G0x0x1x0", 5);
        faultOf("R00G000110x", 10);
        faultOf("R00S1", 5);
        faultOf("R00S10G", 5);
    }

    private void whateverCameBehind() {
        s.terms(4, "whatever came behind it (its length set aside)");
        faultOf("r00G000110S11", 0);
        faultOf("R00g000110S11", 3);
        StringBuilder text = new StringBuilder(Rooms.LONGEST);
        faultOf(text.toString(), -9);
        for (int length = 75; length <= 80; length++) {
            text.append(length % 2 == 0 ? 'G' : 'S');
            faultOf(text.toString(), 74);
        }
        faultOf("x" + Rooms.LONGEST + "SSSSS", 0);
    }

    /** Each beginning of a ROOM: a ROOM where a PART ends, else only not at its end. */
    private void onlyNotAtItsEnd() {
        s.terms(4, "its length, if it is only not at its end");
        for (int length = 0; length < 74; length++) {
            boolean ends = length >= 3 && (length <= 59 ? (length - 3) % 7 == 0 : (length - 59) % 3 == 0);
            faultOf(Rooms.LONGEST.substring(0, length), ends ? -9 : length);
        }
        String stuffs = "R00S11S22S33S44S55";
        for (int length = 0; length <= 18; length++) {
            faultOf(stuffs.substring(0, length), length >= 3 && length % 3 == 0 ? -9 : length);
        }
    }

    private void noneAtAll() {
        s.terms(4, "NONE: none.");
        faultOf("R00", -9);
        faultOf("R99", -9);
        faultOf(Rooms.LONGEST, -9);
        LouderRoom x = new LouderRoom();
        Check.tell(x, "R0");
        s.due("fault(), it stays", x.fault(), 2);
        s.due("fault(), it stays", x.fault(), 2);
        x.write(1, '0');
        s.due("fault(), there is none any more", x.fault(), -9);
        s.due("about(10), THE TEXT stays", x.about(10), 3);
    }

    private void partsNoneOrMore() {
        s.terms(4, "A ROOM is a TEXT: R, EATS (0 .. 9), MUSIC (0 .. 9), then PARTS, none or more:");
        letters("", "R");
        faultOf("R00", -9);
        letters("R00", "GS");
        letters("R00S11", "GS");
        letters("R00G000110", "GS");
        faultOf("R00S11G000110S11G010110", -9);
        faultOf("R00R00", 3);
    }

    /** Behind the beginning of a ROOM no other byte than these may come. */
    private void letters(String behind, String may) {
        for (int b = 0; b < 256; b++) {
            LouderRoom x = new LouderRoom();
            Rooms.told(x, behind);
            x.write(1, b);
            s.due("fault() of " + behind + " and a byte of " + b, x.fault(),
                may.indexOf(b) >= 0 ? behind.length() + 1 : behind.length());
        }
    }

    private void fields() {
        s.terms(4, "EATS (0 .. 9)");
        digits("R", '0', '9', "0");
        s.terms(4, "MUSIC (0 .. 9)");
        digits("R0", '0', '9', "");
        s.terms(4, "Gkxynva a RING of KIND k (0 .. 4)");
        digits("R00G", '0', '4', "00110");
        s.terms(4, "in CELL x, y");
        digits("R00G0", '0', '9', "0110");
        s.terms(4, "9 each), told as 10 y and x.");
        digits("R00G00", '0', '9', "110");
        s.terms(4, "of n PEOPLE (1 .. 9)");
        digits("R00G000", '1', '9', "10");
        s.terms(4, "of VOICE v (1 .. 9)");
        digits("R00G0001", '1', '9', "0");
        s.terms(4, "of AGE a (0 .. 9)");
        digits("R00G00011", '0', '9', "");
        s.terms(4, "that costs c (0 .. 9)");
        digits("R00S", '0', '9', "1");
        s.terms(4, "and EATS e more (1 .. 9)");
        digits("R00S0", '1', '9', "");
    }

    /** Behind the beginning of a ROOM these digits may come, no other byte; with the rest it is a ROOM. */
    private void digits(String behind, char least, char most, String rest) {
        for (int b = 0; b < 256; b++) {
            boolean may = b >= least && b <= most;
            LouderRoom x = new LouderRoom();
            Rooms.told(x, behind);
            x.write(1, b);
            Rooms.told(x, rest);
            s.due("fault() of " + behind + ", a byte of " + b + ", " + rest, x.fault(), may ? -9 : behind.length());
        }
    }

    private void faultsOfMany() {
        s.terms(4, "(no two in one)");
        faultOf("R00G340110G340110", 13);
        faultOf("R00G340110G34", 13);
        faultOf("R00G340110G340", 13);
        faultOf("R00G340110G341", 14);
        faultOf("R00G340110G3", 12);
        faultOf("R00G034110G043110", -9);
        faultOf("R00G034110G035110", -9);
        faultOf("R00G034110G024110", -9);
        faultOf("R00G034110G044110S11G034110", 23);
        faultOf("R00G099110G099110", 13);
        faultOf("R00G000110G000110", 13);
        s.terms(4, "RINGS are 0, 1, .. (8 at most), sets of them bits.");
        String seven = Rooms.LONGEST.substring(0, 52);
        faultOf(seven, -9);
        faultOf(seven + "G099110", -9);
        faultOf(seven + "G099110G", 59);
        faultOf(seven + "G099110G098110", 59);
        faultOf(seven + "G099110S11G098110", 62);
        s.terms(4, "Sce a STUFF (5 at most, numbered as they are told)");
        faultOf("R00S11S11S11S11", -9);
        faultOf("R00S11S11S11S11S11", -9);
        faultOf("R00S11S11S11S11S11S", 18);
        faultOf("R00S11S11S11S11S11S11", 18);
        faultOf("R00S11S11S11S11S11G000110S11", 25);
    }

    private void rooms() {
        theTextIsTheRoom();
        howManyRings();
        theTextStays();
        musicDoesNotFollow();
        noActs();
        whatWasKeptIsGone();
        metersStay();
        lateAFault();
    }

    private void theTextIsTheRoom() {
        s.of(5, "THE TEXT is THE ROOM");
        LouderRoom x = Rooms.at(Rooms::full);
        Check.retell(x, "R97S09G312945G499111");
        s.due("about(0), it is not yet", x.about(0), 8);
        s.due("room()", x.room(), 2);
        int[][] want = {{3, 21, 9, 4, 5}, {4, 99, 1, 1, 1}};
        for (int what = 0; what <= 4; what++) {
            s.due("ring(0, " + what + ")", x.ring(0, what), want[0][what]);
            s.due("ring(1, " + what + ")", x.ring(1, what), want[1][what]);
        }
        s.due("about(2)", x.about(2), 9);
        s.due("about(3)", x.about(3), 7);
        s.due("about(7)", x.about(7), 1);
        s.due("stuff(0, 1)", x.stuff(0, 1), 9);
        Check.retell(x, "R00");
        s.due("room() of nobody", x.room(), 0);
        s.due("about(7), no STUFFS", x.about(7), 0);
    }

    private void howManyRings() {
        s.of(5, "how many RINGS.");
        for (int rings = 0; rings <= 8; rings++) {
            LouderRoom x = new LouderRoom();
            Rooms.told(x, Rooms.LONGEST.substring(0, 3 + 7 * rings));
            s.due("room() of " + rings, x.room(), rings);
            s.due("about(0)", x.about(0), rings);
        }
    }

    private void theTextStays() {
        s.of(5, "(THE TEXT itself stays;");
        LouderRoom x = new LouderRoom();
        Rooms.told(x, "R00G000110");
        s.due("room()", x.room(), 1);
        s.due("about(10)", x.about(10), 10);
        s.due("fault()", x.fault(), -9);
        s.due("write(3, S12)", x.write(3, Rooms.packed("S12")), 13);
        s.due("room()", x.room(), 1);
        s.due("about(7)", x.about(7), 1);
    }

    private void musicDoesNotFollow() {
        s.of(5, "MUSIC does not FOLLOW");
        LouderRoom x = Check.room("R01G400290");
        x.music(5, true);
        x.minute();
        s.due("about(3), it FOLLOWS", x.about(3), 6);
        s.due("rest(0, true), it FOLLOWS there, too", x.rest(0, true), 3);
        x.room();
        s.due("about(3)", x.about(3), 1);
        x.minute();
        s.due("about(3), it does not", x.about(3), 1);
    }

    private void noActs() {
        s.of(5, "no ACTS");
        LouderRoom x = Check.room("R01G400290");
        for (int i = 0; i < 10; i++) {
            x.hush();
        }
        s.due("about(8)", x.about(8), 10);
        x.room();
        s.due("about(8)", x.about(8), 0);
        s.due("undo()", x.undo(), -3);
        s.due("ring(0, 3)", x.ring(0, 3), 9);
    }

    private void whatWasKeptIsGone() {
        s.of(5, "what was kept is gone");
        LouderRoom x = Check.room("R01G400290");
        x.keep(0);
        x.keep(1);
        s.due("again(1)", x.again(1), 1);
        x.room();
        s.due("again(0)", x.again(0), -3);
        s.due("again(1)", x.again(1), -3);
        s.due("keep(1)", x.keep(1), 1);
        s.due("again(1)", x.again(1), 1);
        s.due("again(0)", x.again(0), -3);
    }

    private void metersStay() {
        s.of(5, "METERS stay)");
        LouderRoom x = Check.room("R00G400290");
        x.meter(0, 2);
        x.meter(40, 5);
        x.room();
        s.due("about(9)", x.about(9), 2);
        s.due("came(), by both", x.came(), 2);
    }

    private void lateAFault() {
        s.of(5, "LATE: a FAULT.");
        String[] faulty = {"", "R", "R0", "x00", "R00x", "R00G00011", "R00S1"};
        for (String text : faulty) {
            LouderRoom x = new LouderRoom();
            Rooms.told(x, text);
            s.due("room() of " + text, x.room(), -3);
        }
        s.unchanged("room(), LATE", Rooms::full, x -> s.due("room()", x.room(), -3));
        s.unchanged("room(), LATE", Rooms::some, x -> s.due("room()", x.room(), -3));
        s.unchanged("room(), LATE", Rooms::nobody, x -> s.due("room()", x.room(), -3));
        s.unchanged("fault(), two times", Rooms::some, x -> s.due("fault()", x.fault() + x.fault(), 2 * Rooms.SOME.length() + 2));
    }
}
