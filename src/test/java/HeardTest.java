/** Promises 26 to 30: OVERHEARS, QUIETEST, TABLES, CHANCE. */
public final class HeardTest {
    private static final Check CHECK = new Check("HeardTest");

    public static void main(String[] args) {
        overhears();
        quietest();
        tables();
        tablesAmongRings();
        tablesRefused();
        chance();
        chanceRefused();
        CHECK.end();
    }

    private static void overhears() {
        LouderRoom x = Check.room("R90G000240G010210");
        CHECK.due(26, "overhears(0)", x.overhears(0), 2);
        CHECK.due(26, "overhears(1)", x.overhears(1), 1);
        CHECK.due(26, "overhears(2)", x.overhears(2), -1);
        CHECK.due(26, "overhears(-1)", x.overhears(-1), -1);
        CHECK.due(26, "overhears(0), as loud as the rest", Check.room("R00G000210G011210").overhears(0), 2);
        CHECK.due(26, "overhears(0), farther", Check.room("R00G000210G020210").overhears(0), 0);
        CHECK.due(26, "overhears(0), 0 by 0", Check.room("R90G000210G090210").overhears(0), 0);
        CHECK.due(26, "overhears(0), 1 by 0", Check.room("R90G000210G021210").overhears(0), 2);
        LouderRoom left = Check.room("R90G000210G010290");
        left.home(1);
        CHECK.due(26, "overhears(0), they are HOME", left.overhears(0), 0);
        CHECK.due(26, "overhears(0), two alike", Check.room("R90G011210G001210G021210").overhears(0), 6);
        CHECK.due(26, "overhears(0), MUSIC over it", Check.room("R09G000210G010240").overhears(0), 0);
    }

    private static void quietest() {
        CHECK.due(27, "quietest() of nobody", new LouderRoom().quietest(), 0);
        CHECK.due(27, "quietest()", Check.room("R00G000210").quietest(), 3);
        CHECK.due(27, "quietest(), not where a RING is", Check.room("R00G000110").quietest(), 1);
        CHECK.due(27, "quietest(), two places are taken", Check.room("R00G000110G010110").quietest(), 2);
        CHECK.due(27, "quietest(), the far end", Check.room("R00G000290").quietest(), 99);
        CHECK.due(27, "quietest(), x and y", Check.room("R00G090290").quietest(), 90);
    }

    /** The CELLS of TABLES, one behind another; one more is NONE. */
    private static void tables(String text, int n, boolean column, int line, int square, int... cells) {
        LouderRoom x = Check.room(text);
        String call = "(" + n + ", " + column + ", " + line + ") of " + text;
        CHECK.due(28, "tables" + call, x.tables(n, column, line), square);
        for (int i = 0; i < cells.length; i++) {
            CHECK.due(29, i + ": tableAt" + call, x.tableAt(n, column, line, i), cells[i]);
        }
        CHECK.due(29, "tableAt" + call + ", none such", x.tableAt(n, column, line, cells.length), -9);
        CHECK.due(29, "tableAt" + call + ", -1", x.tableAt(n, column, line, -1), -9);
        CHECK.due(29, "tableAt" + call + ", MAX", x.tableAt(n, column, line, Integer.MAX_VALUE), -9);
    }

    private static void tables() {
        tables("R00", 1, false, 4, 1000, 40);
        tables("R00", 1, true, 4, 1000, 4);
        tables("R00", 2, false, 4, 81, 40, 49);
        tables("R00", 2, true, 4, 81, 4, 94);
        tables("R00", 3, false, 0, 16, 0, 4, 8);
        tables("R00", 4, true, 2, 9, 2, 32, 62, 92);
        tables("R00", 4, false, 9, 9, 90, 93, 96, 99);
    }

    private static void tablesAmongRings() {
        tables("R00G000110", 1, false, 0, 81, 9);
        tables("R00G000110", 1, false, 1, 82, 19);
        tables("R00G000110", 1, true, 1, 82, 91);
        tables("R00G000110", 2, false, 0, 16, 4, 8);
        tables("R00G004110G094110", 1, false, 4, 16, 44);
        tables("R00G005110G095110", 1, true, 0, 25, 0);
        String eight = "R00G000110G010110G020110G030110G040110G050110G060110G070110";
        tables(eight, 1, false, 0, 4, 9);
        tables(eight, 2, false, 0, 1, 8, 9);
        tables(eight, 3, false, 0, -9);
        tables(eight, 4, false, 0, -9);
        tables(eight, 4, false, 1, 1, 10, 11, 12, 13);
        tables(eight, 4, true, 0, 4, 20, 40, 60, 80);
    }

    private static void tablesRefused() {
        LouderRoom x = Check.room("R00");
        int[][] bad = {{0, 0}, {5, 0}, {-1, 3}, {1, -1}, {1, 10}, {Integer.MAX_VALUE, 0}, {2, Integer.MIN_VALUE}};
        for (int[] call : bad) {
            String told = "(" + call[0] + ", .., " + call[1] + ")";
            CHECK.due(28, "tables" + told, x.tables(call[0], true, call[1]), -2);
            CHECK.due(29, "tableAt" + told, x.tableAt(call[0], false, call[1], 0), -2);
            CHECK.due(29, "tableAt" + told + ", BAD ahead of NONE", x.tableAt(call[0], false, call[1], -1), -2);
        }
    }

    private static void chance(String text, int ring, int x, long upper, long lower) {
        LouderRoom room = Check.room(text);
        CHECK.due(30, "chance(" + ring + ", " + x + ", true) of " + text, room.chance(ring, x, true), upper);
        CHECK.due(30, "chance(" + ring + ", " + x + ", false) of " + text, room.chance(ring, x, false), lower);
        CHECK.due(30, "about(0), nothing is changed", room.about(0), text.length() / 7);
    }

    /** RING 0 HEARS if all its neighbours are still. */
    private static void chance() {
        String one = "R90G000410G010210";
        chance(one, 0, 3, 7, 10);
        chance(one, 0, 5, 1, 2);
        chance(one, 0, 0, 1, 1);
        chance(one, 0, 10, 0, 1);
        chance(one + "G001210", 0, 5, 1, 4);
        chance(one + "G001210", 0, 2, 16, 25);
        chance(one + "G001210G099210", 0, 2, 16, 25);
        chance(one + "G001110", 0, 2, 4, 5);
        chance("R90G400410G010210", 0, 3, 1, 1);
        chance("R90G000110G010210", 0, 3, 1, 1);
        chance("R00G000910", 0, 3, 0, 1);
        chance("R99G000410G010210", 0, 3, 0, 1);
        chance("R90G000910G010210G020210G030210G040210G050210G060210G070210", 7, 1, 1236537, 1250000);
    }

    private static void chanceRefused() {
        LouderRoom x = Check.room("R90G000410G010210");
        CHECK.due(30, "chance(2, 3, true)", x.chance(2, 3, true), -1);
        CHECK.due(30, "chance(0, 5, true)", x.chance(0, 5, true), 1);
        CHECK.due(20, "rest(0, false), nobody is still any more", x.rest(0, false), 1024);
        x.voice(1, 9);
        x.voice(0, 9);
        CHECK.due(30, "chance(0, 10, true), both are loud", x.chance(0, 10, true), 0);
        x.eats(0);
        x.voice(1, 6);
        CHECK.due(30, "chance(0, 10, true), one is", x.chance(0, 10, true), 1);
        x.home(1);
        CHECK.due(30, "chance(0, 10, true), alone", x.chance(0, 10, true), 1);
        CHECK.due(30, "chance(-1, 3, false)", x.chance(-1, 3, false), -1);
        CHECK.due(30, "chance(2, 11, true), UNKNOWN ahead of BAD", x.chance(2, 11, true), -1);
        CHECK.due(30, "chance(0, 11, true)", x.chance(0, 11, true), -2);
        CHECK.due(30, "chance(0, -1, false)", x.chance(0, -1, false), -2);
    }
}
