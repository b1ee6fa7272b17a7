/** Sentences of promises 26 to 30. */
final class HeardSentences {
    private static final int MIN = Integer.MIN_VALUE, MAX = Integer.MAX_VALUE;
    /** Eight in the first row: two CELLS of it are left. */
    private static final String ROW = "R00G000110G010110G020110G030110G040110G050110G060110G070110";

    private final Sentences s;

    private HeardSentences(Sentences s) {
        this.s = s;
    }

    static void all(Sentences s) {
        HeardSentences tests = new HeardSentences(s);
        tests.overhears();
        tests.quietest();
        tests.tables();
        tests.tablesRefused();
        tests.chances();
        tests.nothingIsChanged();
    }

    private void overheard(String text, int ring, int want) {
        s.due("overhears(" + ring + ") of " + text, Check.room(text).overhears(ring), want);
    }

    private void overhears() {
        whom();
        oneOrMore();
        noLessThanTheRest();
        overhearsUnknown();
    }

    private void whom() {
        s.of(26, "Whom a RING OVERHEARS, as bits.");
        for (int other = 1; other < 8; other++) {
            StringBuilder text = new StringBuilder("R90G000210");
            for (int i = 1; i < 8; i++) {
                text.append(i == other ? "G001240" : "G0" + (i + 2) + "9210");
            }
            overheard(text.toString(), 0, 1 << other);
        }
        overheard("R90G011210G001210G021210", 0, 6);
        overheard("R90G011190G001210G021210", 0, 6);
        overheard("R90G011210G001210G021210G010210", 0, 0);
        overheard("R90G000210", 0, 0);
        overheard("R90G000290G010190", 0, 0);
        overheard("R90G000290G010190", 1, 1);
    }

    private void oneOrMore() {
        s.terms(26, "OVERHEARS: a RING does another one, if what is FROM that at its CELL is 1 or more");
        overheard("R90G000210G022210", 0, 2);
        overheard("R90G000210G021210", 0, 2);
        overheard("R90G000210G030210", 0, 0);
        overheard("R90G000210G003210", 0, 0);
        overheard("R90G000210G099210", 0, 0);
        overheard("R90G000110G010190", 0, 0);
    }

    private void noLessThanTheRest() {
        s.terms(26, "and no less than NOISE there less that.");
        overheard("R00G000210G011210", 0, 2);
        overheard("R01G000210G011210", 0, 0);
        overheard("R00G000210G020210", 0, 0);
        overheard("R00G000210G010210", 0, 2);
        overheard("R02G000210G010210", 0, 2);
        overheard("R03G000210G010210", 0, 0);
        overheard("R00G000220G011210", 0, 0);
        overheard("R00G000220G011210", 1, 1);
    }

    private void overhearsUnknown() {
        s.of(26, "UNKNOWN.");
        LouderRoom x = Check.room("R90G011210G001210G021210");
        for (int ring : new int[] {-1, 3, 8, MIN, MAX}) {
            s.due("overhears(" + ring + ") of 3", x.overhears(ring), -1);
        }
        s.due("overhears(2)", x.overhears(2), 1);
        s.due("overhears(0) of nobody", new LouderRoom().overhears(0), -1);
        s.due("overhears(7) of 8", Check.room(ROW).overhears(7), 0);
        s.due("overhears(8) of 8", Check.room(ROW).overhears(8), -1);
        s.unchanged("overhears(8)", Rooms::full, y -> s.due("overhears(8)", y.overhears(8), -1));
    }

    private void quietestOf(String text, int want) {
        s.due("quietest() of " + text, Check.room(text).quietest(), want);
    }

    private void quietest() {
        s.of(27, "QUIETEST.");
        s.due("quietest() of nobody", new LouderRoom().quietest(), 0);
        quietestOf("R00G000290", 99);
        quietestOf("R00G099290", 0);
        quietestOf("R00G090290", 90);
        quietestOf("R00G009290", 9);
        s.terms(27, "QUIETEST: the CELL without a RING of least NOISE;");
        quietestOf("R00G055290", 0);
        quietestOf("R00G055290G000110", 1);
        quietestOf("R00G055290G000110G010110", 9);
        quietestOf("R00G055290G000110G010110G090110", 10);
        quietestOf("R00G000290G099110", 89);
        s.terms(27, "of like ones the least.");
        quietestOf("R00G000210", 3);
        quietestOf("R00G000110", 1);
        quietestOf("R00G010110", 0);
        quietestOf(ROW, 8);
        quietestOf("R09", 0);
    }

    /** The CELLS of TABLES, one behind another; one more is NONE. */
    private void at(String text, int n, boolean column, int line, int square, int... cells) {
        LouderRoom x = Check.room(text);
        String call = "(" + n + ", " + column + ", " + line + ") of " + text;
        s.due("tables" + call, x.tables(n, column, line), square);
        for (int i = 0; i < cells.length; i++) {
            s.due("tableAt, " + i + call, x.tableAt(n, column, line, i), cells[i]);
        }
        s.due("tableAt, none such, " + cells.length + call, x.tableAt(n, column, line, cells.length), -9);
    }

    private void tables() {
        leastSquare();
        rowOrColumn();
        oneToFour();
        isMost();
        firstByCells();
        onlyWithoutARing();
        notSoMany();
    }

    private void leastSquare() {
        s.of(28, "TABLES: the least square (1000 if there is nothing to be far from); NONE.");
        at("R00", 1, false, 0, 1000, 0);
        at("R00", 1, true, 9, 1000, 9);
        at("R00", 2, false, 0, 81, 0, 9);
        at("R00G099110", 1, false, 0, 162, 0);
        at("R00G000110", 1, true, 9, 162, 99);
        at("R00G000110", 1, false, 0, 81, 9);
        at(ROW, 3, false, 0, -9);
        s.terms(28, "so that the least square of how far one is from another one of them, or from a RING");
        at("R00", 2, false, 5, 81, 50, 59);
        at("R00", 3, false, 5, 16, 50, 54, 58);
        at("R00", 4, false, 5, 9, 50, 53, 56, 59);
        at("R00G005110", 2, false, 5, 16, 54, 58);
    }

    private void rowOrColumn() {
        s.of(28, "BAD: n (1 .. 4), line (0 .. 9). (column = false: a row.)");
        for (int line = 0; line <= 9; line++) {
            at("R00", 2, false, line, 81, 10 * line, 10 * line + 9);
            at("R00", 2, true, line, 81, line, 90 + line);
        }
        s.terms(28, "of a told row or column (0 .. 9)");
        at("R00G030110", 1, false, 0, 36, 9);
        at("R00G030110", 1, true, 3, 81, 93);
        at("R00G003110", 1, true, 0, 36, 90);
        at("R00G003110", 1, false, 3, 81, 39);
    }

    private void oneToFour() {
        s.terms(28, "TABLES: so many CELLS (1 .. 4)");
        int[] squares = {1000, 81, 16, 9};
        for (int n = 1; n <= 4; n++) {
            LouderRoom x = new LouderRoom();
            s.due("tables(" + n + ", true, 0)", x.tables(n, true, 0), squares[n - 1]);
            for (int i = 0; i <= 5; i++) {
                s.due("tableAt(" + n + ", true, 0, " + i + ") is there", x.tableAt(n, true, 0, i) >= 0 ? 1 : 0, i < n ? 1 : 0);
            }
        }
        s.of(29, "The i-th of these CELLS (from 0); NONE: there is none such.");
        for (int i : new int[] {-1, 4, 10, MIN, MAX}) {
            s.due("tableAt(4, false, 0, " + i + ")", new LouderRoom().tableAt(4, false, 0, i), -9);
        }
        s.due("tableAt(4, false, 0, 0)", new LouderRoom().tableAt(4, false, 0, 0), 0);
        s.due("tableAt(4, false, 0, 3)", new LouderRoom().tableAt(4, false, 0, 3), 9);
        s.due("tableAt(3, false, 0, 0), there are not so many", Check.room(ROW).tableAt(3, false, 0, 0), -9);
    }

    private void isMost() {
        s.terms(28, ", is most;");
        at("R00G000110G090110", 1, false, 0, 16, 4);
        at("R00G000110G090110", 2, false, 0, 9, 3, 6);
        at("R00G000110G090110", 3, false, 0, 4, 2, 4, 6);
        at("R00G000110G090110", 4, false, 0, 1, 1, 2, 3, 4);
        at("R00G050110", 1, false, 0, 25, 0);
        at("R00G040110", 1, false, 0, 25, 9);
    }

    private void firstByCells() {
        s.terms(28, "of like ones the first by CELLS;");
        at("R00G000110G090110", 1, false, 0, 16, 4);
        at("R00G004110G094110", 1, false, 4, 16, 44);
        at("R00G000110G009110", 1, true, 0, 16, 40);
        at("R00", 3, true, 7, 16, 7, 47, 87);
        at("R00G055110", 1, false, 5, 25, 50);
        at("R00G045110", 2, false, 5, 16, 50, 58);
        at("R00G000110G020110", 4, false, 0, 1, 1, 3, 4, 5);
    }

    private void onlyWithoutARing() {
        s.terms(28, "only such without a RING.");
        at(ROW, 1, false, 0, 4, 9);
        at(ROW, 2, false, 0, 1, 8, 9);
        at("R00G010110G030110G050110G070110G090110", 4, false, 0, 1, 0, 2, 4, 6);
        at("R00G001990G003990G005990G007990G009990", 4, true, 0, 1, 0, 20, 40, 60);
    }

    private void notSoMany() {
        s.terms(28, "NONE: there are not so many.");
        for (int rings = 5; rings <= 8; rings++) {
            String text = ROW.substring(0, 3 + 7 * rings);
            for (int n = 1; n <= 4; n++) {
                LouderRoom x = Check.room(text);
                boolean fit = n <= 10 - rings;
                s.due("tables(" + n + ", false, 0), " + rings + " are taken", x.tables(n, false, 0) == -9 ? 0 : 1, fit ? 1 : 0);
                s.due("tableAt(.., " + (n - 1) + ")", x.tableAt(n, false, 0, n - 1) == -9 ? 0 : 1, fit ? 1 : 0);
                s.due("tables(" + n + ", true, 0)", x.tables(n, true, 0) == -9 ? 0 : 1, 1);
            }
        }
    }

    private void tablesRefused() {
        LouderRoom x = Check.room(ROW);
        s.of(28, "BAD: n (1 .. 4), line (0 .. 9).");
        for (int n : new int[] {-1, 0, 5, MIN, MAX}) {
            s.due("tables(" + n + ", false, 5)", x.tables(n, false, 5), -2);
            s.due("tables(" + n + ", true, 10)", x.tables(n, true, 10), -2);
        }
        for (int line : new int[] {-1, 10, MIN, MAX}) {
            s.due("tables(1, false, " + line + ")", x.tables(1, false, line), -2);
            s.due("tables(4, true, " + line + ")", x.tables(4, true, line), -2);
        }
        s.of(29, "BAD.");
        for (int n : new int[] {-1, 0, 5, MIN, MAX}) {
            s.due("tableAt(" + n + ", false, 5, 0)", x.tableAt(n, false, 5, 0), -2);
            s.due("tableAt(" + n + ", false, 5, -1)", x.tableAt(n, false, 5, -1), -2);
        }
        for (int line : new int[] {-1, 10, MIN, MAX}) {
            s.due("tableAt(1, false, " + line + ", 0)", x.tableAt(1, false, line, 0), -2);
            s.due("tableAt(4, true, " + line + ", 9)", x.tableAt(4, true, line, 9), -2);
        }
        s.unchanged("tables(5, false, 0)", Rooms::full, y -> s.due("tables(5, false, 0)", y.tables(5, false, 0), -2));
        s.unchanged("tableAt(1, true, 10, 0)", Rooms::some, y -> s.due("tableAt(1, true, 10, 0)", y.tableAt(1, true, 10, 0), -2));
    }

    private void chance(String text, int ring, int x, long upper, long lower) {
        LouderRoom room = Check.room(text);
        s.due("chance(" + ring + ", " + x + ", true) of " + text, room.chance(ring, x, true), upper);
        s.due("chance(" + ring + ", " + x + ", false) of " + text, room.chance(ring, x, false), lower);
    }

    private void chances() {
        tenths();
        manyOthers();
        alwaysAndNever();
        leastTerms();
        chancesRefused();
    }

    /** RING 0 HEARS if RING 1 is still. */
    private void tenths() {
        s.terms(30, "CHANCE that a RING HEARS: each other one speaks by x tenths (0 .. 10; else its LOUD is 0), a FRACTION.");
        long[][] want = {{1, 1}, {9, 10}, {4, 5}, {7, 10}, {3, 5}, {1, 2}, {2, 5}, {3, 10}, {1, 5}, {1, 10}, {0, 1}};
        for (int x = 0; x <= 10; x++) {
            chance("R90G000410G010210", 0, x, want[x][0], want[x][1]);
        }
        chance("R00G099210G000810", 1, 0, 1, 1);
        chance("R00G099210G000810", 1, 10, 0, 1);
        chance("R00G099210G000810", 0, 10, 1, 1);
        chance("R00G099510G000810", 0, 10, 0, 1);
        chance("R00G099510G000810", 0, 0, 1, 1);
    }

    /** RING 0 HEARS if all seven others are still. */
    private void manyOthers() {
        s.of(30, "CHANCE that it HEARS.");
        String text = "R00G000810G190210G209210G399210G455210G059210G195210G297210";
        chance(text, 0, 0, 1, 1);
        chance(text, 0, 1, 4782969, 10000000);
        chance(text, 0, 2, 16384, 78125);
        chance(text, 0, 5, 1, 128);
        chance(text, 0, 9, 1, 10000000);
        chance(text, 0, 10, 0, 1);
        chance(text.replace("G190210", "G190110"), 0, 5, 1, 64);
        chance(text.replace("G455210", "G455190"), 0, 5, 1, 64);
    }

    private void alwaysAndNever() {
        s.of(30, "CHANCE that it HEARS.");
        LouderRoom now = Check.room("R00G000810G099210");
        s.due("chance(0, 10, true)", now.chance(0, 10, true), 0);
        now.home(1);
        s.due("chance(0, 10, true), the other one went HOME", now.chance(0, 10, true), 1);
        now.music(1, false);
        s.due("chance(0, 10, true), with MUSIC", now.chance(0, 10, true), 0);
        now.voice(0, 9);
        now.eats(1);
        s.due("chance(0, 10, true), louder and EATS", now.chance(0, 10, true), 1);
        for (int x = 0; x <= 10; x++) {
            chance("R09G000199G010990", 0, x, 1, 1);
            chance("R09G400999G010990", 0, x, 1, 1);
            chance("R00G000990G010990", 0, x, 0, 1);
            chance("R00G000210", 0, x, 1, 1);
            chance("R00G000990", 0, x, 0, 1);
        }
    }

    private void leastTerms() {
        s.terms(30, "FRACTIONS are told above (upper = true), below, in least terms.");
        chance("R90G000410G010210", 0, 4, 3, 5);
        chance("R90G000410G010210", 0, 5, 1, 2);
        chance("R90G000410G010210", 0, 10, 0, 1);
        chance("R90G000410G010210", 0, 0, 1, 1);
        chance("R90G000410G010210G001210", 0, 2, 16, 25);
        chance("R90G000410G010210G001210", 0, 5, 1, 4);
        chance("R90G000910G010210G020210G030210G040210G050210G060210G070210", 7, 1, 1236537, 1250000);
    }

    private void chancesRefused() {
        s.of(30, "UNKNOWN; BAD: x.");
        LouderRoom x = Check.room("R90G000410G010210");
        for (int ring : new int[] {-1, 2, 8, MIN, MAX}) {
            s.due("chance(" + ring + ", 0, true) of 2", x.chance(ring, 0, true), -1);
            s.due("chance(" + ring + ", 11, false), UNKNOWN ahead of BAD", x.chance(ring, 11, false), -1);
            s.due("chance(" + ring + ", -1, true), UNKNOWN ahead of BAD", x.chance(ring, -1, true), -1);
        }
        for (int tenths : new int[] {-1, 11, MIN, MAX}) {
            s.due("chance(1, " + tenths + ", true)", x.chance(1, tenths, true), -2);
            s.due("chance(0, " + tenths + ", false)", x.chance(0, tenths, false), -2);
        }
        s.due("chance(0, 0, true) of nobody", new LouderRoom().chance(0, 0, true), -1);
        s.unchanged("chance(8, 0, true)", Rooms::full, y -> s.due("chance(8, 0, true)", y.chance(8, 0, true), -1));
        s.unchanged("chance(0, 11, true)", Rooms::some, y -> s.due("chance(0, 11, true)", y.chance(0, 11, true), -2));
    }

    private void nothingIsChanged() {
        s.terms(26, "In what follows nothing is changed.");
        Twins.Use[] asks = {y -> y.overhears(1), LouderRoom::quietest, y -> y.tables(3, true, 4),
            y -> y.tableAt(2, false, 0, 1), y -> y.chance(0, 5, true), y -> y.chance(1, 10, false), y -> y.noise(3, 3),
            y -> y.from(0, 2, 2), y -> y.ring(0, 8), y -> y.stuff(0, 1), LouderRoom::came};
        for (int i = 0; i < asks.length; i++) {
            s.unchanged("question " + i, Rooms::full, asks[i]);
            s.unchanged("question " + i, Rooms::some, asks[i]);
            s.unchanged("question " + i, Rooms::nobody, asks[i]);
        }
    }
}
