/** Promises 34 and 35: SLOTS. */
public final class SlotTest {
    private static final Check CHECK = new Check("SlotTest");

    public static void main(String[] args) {
        keep();
        again();
        bothSlots();
        CHECK.end();
    }

    private static void keep() {
        LouderRoom x = Check.room("R32G000230G321425S41");
        CHECK.due(34, "keep(0)", x.keep(0), 2);
        CHECK.due(34, "keep(1)", x.keep(1), 2);
        CHECK.due(34, "keep(2)", x.keep(2), -1);
        CHECK.due(34, "keep(-1)", x.keep(-1), -1);
        x.hush();
        x.keep(0);
        CHECK.due(34, "about(8), ACTS go on", x.about(8), 1);
        CHECK.due(34, "keep(0) of nobody", new LouderRoom().keep(0), 0);
    }

    private static void again() {
        LouderRoom x = Check.room("R32G000230G321425S41");
        CHECK.due(35, "again(0), none were kept", x.again(0), -3);
        CHECK.due(35, "again(2)", x.again(2), -1);
        CHECK.due(35, "again(-1)", x.again(-1), -1);
        x.music(4, true);
        x.meter(2, 2);
        x.keep(1);
        CHECK.due(35, "again(0), none were kept there", x.again(0), -3);
        x.hush();
        x.home(0);
        x.eats(8);
        x.music(1, false);
        CHECK.due(35, "again(1)", x.again(1), 2);
        int[] second = {3, 12, 4, 2, 5, 4, 16};
        for (int what = 0; what < second.length; what++) {
            CHECK.due(35, "ring(1, " + what + ")", x.ring(1, what), second[what]);
        }
        CHECK.due(35, "ring(0, 3)", x.ring(0, 3), 3);
        CHECK.due(35, "about(2)", x.about(2), 3);
        CHECK.due(35, "about(3)", x.about(3), 4);
        CHECK.due(35, "about(7)", x.about(7), 1);
        CHECK.due(35, "about(8), no ACTS", x.about(8), 0);
        CHECK.due(35, "undo()", x.undo(), -3);
        CHECK.due(35, "about(9)", x.about(9), 1);
        CHECK.due(35, "about(10)", x.about(10), 20);
        x.music(0, false);
        x.again(1);
        x.eats(0);
        x.minute();
        CHECK.due(35, "about(3), it FOLLOWS again", x.about(3), 5);
        CHECK.due(35, "again(1), what is kept stays", x.again(1), 2);
        CHECK.due(35, "about(3)", x.about(3), 4);
    }

    private static void bothSlots() {
        LouderRoom x = Check.room("R32G000230G321425S41");
        x.keep(0);
        x.home(1);
        x.keep(1);
        CHECK.due(35, "again(0)", x.again(0), 2);
        CHECK.due(35, "again(1)", x.again(1), 1);
        x.home(0);
        CHECK.due(34, "keep(0), another one", x.keep(0), 0);
        CHECK.due(35, "again(1)", x.again(1), 1);
        CHECK.due(35, "again(0)", x.again(0), 0);
    }
}
