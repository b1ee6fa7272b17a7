/** Promises 1 to 5: a new object, THE TEXT, FAULT, THE ROOM. */
public final class TextTest {
    private static final Check CHECK = new Check("TextTest");

    public static void main(String[] args) {
        newObject();
        writing();
        wiping();
        faults();
        faultsOfMany();
        rooms();
        CHECK.end();
    }

    private static void newObject() {
        LouderRoom x = new LouderRoom();
        for (int what = 0; what <= 10; what++) {
            CHECK.due(1, "about(" + what + ")", x.about(what), 0);
        }
        CHECK.due(1, "ring(0, 0)", x.ring(0, 0), -1);
        CHECK.due(1, "stuff(0, 0)", x.stuff(0, 0), -1);
        CHECK.due(1, "undo()", x.undo(), -3);
        CHECK.due(1, "again(0)", x.again(0), -3);
        CHECK.due(1, "again(1)", x.again(1), -3);
        CHECK.due(1, "unmeter()", x.unmeter(), 0);
        CHECK.due(1, "minute()", x.minute(), 0);
        CHECK.due(1, "about(3), MUSIC does not FOLLOW", x.about(3), 0);
    }

    private static void writing() {
        LouderRoom x = new LouderRoom();
        CHECK.due(2, "write(0, ..)", x.write(0, 82), -2);
        CHECK.due(2, "write(-1, ..)", x.write(-1, 82), -2);
        CHECK.due(2, "write(9, ..)", x.write(9, 82), -2);
        CHECK.due(2, "write(MIN, ..)", x.write(Integer.MIN_VALUE, 82), -2);
        CHECK.due(2, "write(MAX, ..)", x.write(Integer.MAX_VALUE, 82), -2);
        CHECK.due(2, "about(10), nothing came", x.about(10), 0);
        CHECK.due(2, "write(1, the lowest byte)", x.write(1, 0x7777777777777700L + 'R'), 1);
        CHECK.due(2, "write(2, '35')", x.write(2, '3' * 256L + '5'), 3);
        CHECK.due(2, "fault()", x.fault(), -9);
        CHECK.due(2, "room()", x.room(), 0);
        CHECK.due(2, "about(2), the highest first", x.about(2), 3);
        CHECK.due(2, "about(3)", x.about(3), 5);
        CHECK.due(2, "write(8, 'S11S22S3')", x.write(8, 0x5331315332325333L), 11);
        CHECK.due(2, "write(1, '3')", x.write(1, '3'), 12);
        CHECK.due(2, "room()", x.room(), 0);
        CHECK.due(2, "about(7)", x.about(7), 3);
        CHECK.due(2, "stuff(2, 0)", x.stuff(2, 0), 3);
        for (int length = 20; length <= 76; length += 8) {
            CHECK.due(2, "write(8, -1)", x.write(8, -1), length);
        }
        CHECK.due(2, "write(5, 0), over 80", x.write(5, 0), -4);
        CHECK.due(2, "write(9, 0), BAD ahead of FULL", x.write(9, 0), -2);
        CHECK.due(2, "about(10), nothing came", x.about(10), 76);
        CHECK.due(2, "write(4, 0)", x.write(4, 0), 80);
        CHECK.due(2, "write(1, 0), over 80", x.write(1, 0), -4);
        CHECK.due(2, "about(10)", x.about(10), 80);
        CHECK.due(2, "fault(), a byte of 255", x.fault(), 12);
    }

    private static void wiping() {
        LouderRoom x = Check.room("R32G000230");
        CHECK.due(3, "wipe()", x.wipe(), 10);
        CHECK.due(3, "wipe()", x.wipe(), 0);
        CHECK.due(3, "about(10)", x.about(10), 0);
        CHECK.due(3, "about(0), THE ROOM stays", x.about(0), 1);
        CHECK.due(3, "fault()", x.fault(), 0);
    }

    private static void fault(String text, int want) {
        LouderRoom x = new LouderRoom();
        Check.tell(x, text);
        CHECK.due(4, "fault() of " + text, x.fault(), want);
        CHECK.due(5, "room() of " + text, x.room() == -3 ? 1 : 0, want == -9 ? 0 : 1);
        CHECK.due(4, "about(10) of " + text, x.about(10), text.length());
    }

    private static void faults() {
        String[] ends = {"", "R", "R0", "R00G", "R00G0", "R00G01", "R00G012", "R00G0123", "R00G01234", "R00S", "R00S1"};
        for (String text : ends) {
            fault(text, text.length());
        }
        fault("R00", -9);
        fault("R99", -9);
        fault("r00", 0);
        fault("G00", 0);
        fault("RR0", 1);
        fault("R/0", 1);
        fault("R:0", 1);
        fault("R0a", 2);
        fault("000", 0);
        fault("R00G012:", 7);
        fault("R00G0123:", 8);
        fault("R00G01234:", 9);
        fault("R00S:", 4);
        fault("R00S1:", 5);
        fault("R00R", 3);
        fault("R00 ", 3);
        fault("R00G012345", -9);
        fault("R00G5", 4);
        fault("R00G499119", -9);
        fault("R00G0:", 5);
        fault("R00G00:", 6);
        fault("R00G0000", 7);
        fault("R00G00010", 8);
        fault("R00G00011x", 9);
        fault("R00G000110G100110", 13);
        fault("R00G000110G010110", -9);
        fault("R00G012110G021110", -9);
        fault("R00G012110G012", 13);
        fault("R00S09", -9);
        fault("R00S91", -9);
        fault("R00S10", 5);
        fault("R00Sx1", 4);
        fault("R00S11G000110S22", -9);
        fault("X\u00ff\u0000", 0);
        fault("R0\u00b0", 2);
    }

    private static void faultsOfMany() {
        StringBuilder eight = new StringBuilder("R00");
        for (int i = 0; i < 8; i++) {
            eight.append("G0").append(i).append("0110");
        }
        fault(eight.toString(), -9);
        fault(eight + "G", 59);
        fault(eight + "S11S11S11S11S11", -9);
        fault(eight + "S11S11S11S11S11S", 74);
        fault("R00S11S11S11S11S11", -9);
        fault("R00S11S11S11S11S11S", 18);
        fault("R00S11S11S11S11S11G000110", -9);
        fault(eight + "S11S11S11S11S11123456", 74);
        fault("R00S11S11S11S11S1", 17);
    }

    private static void rooms() {
        LouderRoom x = Check.room("R32G000230G321425S41");
        CHECK.due(5, "about(0)", x.about(0), 2);
        CHECK.due(5, "about(10), THE TEXT stays", x.about(10), 20);
        CHECK.due(5, "room() again", x.room(), 2);
        x.music(1, true);
        x.minute();
        x.keep(0);
        x.meter(1, 1);
        Check.tell(x, "x");
        CHECK.due(5, "room(), a FAULT", x.room(), -3);
        CHECK.due(5, "about(3), nothing is changed", x.about(3), 2);
        CHECK.due(5, "about(8), nothing is changed", x.about(8), 1);
        CHECK.due(5, "again(0), nothing is changed", x.again(0), 2);
        x.minute();
        x.loudest();
        x.softer();
        Check.retell(x, "R53G044555");
        CHECK.due(5, "room()", x.room(), 1);
        CHECK.due(5, "about(2)", x.about(2), 5);
        CHECK.due(5, "about(3)", x.about(3), 3);
        CHECK.due(5, "about(7)", x.about(7), 0);
        CHECK.due(5, "about(8), no ACTS", x.about(8), 0);
        CHECK.due(5, "undo()", x.undo(), -3);
        CHECK.due(5, "about(9), METERS stay", x.about(9), 1);
        CHECK.due(5, "again(0), what was kept is gone", x.again(0), -3);
        x.minute();
        CHECK.due(5, "about(3), MUSIC does not FOLLOW", x.about(3), 3);
    }
}
