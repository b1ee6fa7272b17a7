/** Sentences of promises 31 to 33. */
final class MeterSentences {
    private static final int MIN = Integer.MIN_VALUE, MAX = Integer.MAX_VALUE;

    private final Sentences s;

    private MeterSentences(Sentences s) {
        this.s = s;
    }

    static void all(Sentences s) {
        MeterSentences tests = new MeterSentences(s);
        tests.meters();
        tests.unmeters();
        tests.came();
    }

    private void meters() {
        s.of(31, "METER: how many there are.");
        LouderRoom x = new LouderRoom();
        for (int i = 1; i <= 6; i++) {
            s.due("meter(0, 0)", x.meter(0, 0), i);
            s.due("about(9)", x.about(9), i);
        }
        s.of(31, "BAD: minute, echo (0 .. 9999); FULL: 6.");
        for (int minute : new int[] {-1, 41, 42, MIN, MAX}) {
            s.due("meter(" + minute + ", 0)", new LouderRoom().meter(minute, 0), -2);
            s.due("meter(" + minute + ", 10000)", new LouderRoom().meter(minute, 10000), -2);
            s.due("meter(" + minute + ", 0), BAD ahead of FULL", x.meter(minute, 0), -2);
        }
        for (int echo : new int[] {-1, 10000, MIN, MAX}) {
            s.due("meter(0, " + echo + ")", new LouderRoom().meter(0, echo), -2);
            s.due("meter(40, " + echo + "), BAD ahead of FULL", x.meter(40, echo), -2);
        }
        s.due("meter(40, 9999), FULL", x.meter(40, 9999), -4);
        s.due("about(9)", x.about(9), 6);
        LouderRoom most = new LouderRoom();
        s.due("meter(40, 9999)", most.meter(40, 9999), 1);
        s.due("meter(0, 9999)", most.meter(0, 9999), 2);
        s.due("meter(40, 0)", most.meter(40, 0), 3);
        s.terms(31, "(0 .. 40; 6 of these at most, none at first)");
        s.due("about(9), none at first", new LouderRoom().about(9), 0);
        s.due("unmeter(), none at first", new LouderRoom().unmeter(), 0);
        for (int minute = 0; minute <= 40; minute++) {
            s.due("meter(" + minute + ", 7)", new LouderRoom().meter(minute, 7), 1);
        }
        refused();
    }

    private void refused() {
        s.terms(31, "What is refused changes nothing.");
        s.unchanged("meter(3, 3), FULL", Rooms::full, y -> s.due("meter(3, 3)", y.meter(3, 3), -4));
        s.unchanged("meter(41, 3), BAD", Rooms::full, y -> s.due("meter(41, 3)", y.meter(41, 3), -2));
        s.unchanged("meter(3, 10000), BAD", Rooms::some, y -> s.due("meter(3, 10000)", y.meter(3, 10000), -2));
        s.unchanged("meter(-1, 0), BAD", Rooms::nobody, y -> s.due("meter(-1, 0)", y.meter(-1, 0), -2));
        LouderRoom x = Check.room("R00G400290");
        for (int i = 0; i < 6; i++) {
            x.meter(0, 2);
        }
        s.due("meter(0, 900), FULL", x.meter(0, 900), -4);
        s.due("came(), by the first six", x.came(), 3);
    }

    private void unmeters() {
        s.of(32, "There are no METERS: how many there were.");
        for (int meters = 0; meters <= 6; meters++) {
            LouderRoom x = Check.room("R00G400290");
            for (int i = 0; i < meters; i++) {
                x.meter(i, 900);
            }
            s.due("came() by " + meters, x.came(), meters == 0 ? 3 : 0);
            s.due("unmeter()", x.unmeter(), meters);
            s.due("unmeter() again", x.unmeter(), 0);
            s.due("about(9)", x.about(9), 0);
            s.due("came(), by none", x.came(), 3);
            s.due("meter(0, 2)", x.meter(0, 2), 1);
            s.due("about(8), it is no ACT", x.about(8), 0);
        }
    }

    private void cameBy(LouderRoom x, int minute, int echo, int want) {
        x.meter(minute, echo);
        s.due("came() by ECHO " + echo + " at " + minute, x.came(), want);
        x.unmeter();
    }

    private void came() {
        threeMoreOrLess();
        fromQuiet();
        atSomeMinutes();
        bitsOfHowMany();
        allMetersCount();
        musicComesToo();
        s.of(33, "CAME, as bits.");
        s.unchanged("came()", Rooms::full, y -> s.due("came()", y.came(), y.came()));
        s.unchanged("came()", Rooms::some, y -> s.due("came()", y.came(), y.came()));
        s.unchanged("came()", Rooms::nobody, y -> s.due("came()", y.came(), 1));
    }

    /** ECHO is 0 of nobody, 32 of one, at each of the MINUTES. */
    private void threeMoreOrLess() {
        s.terms(33, "3 more or less.");
        LouderRoom x = Check.room("R05G400110");
        int[][] want = {{27, 0}, {28, 0}, {29, 3}, {32, 3}, {35, 3}, {36, 0}, {9999, 0}, {0, 0}};
        for (int[] meter : want) {
            cameBy(x, 0, meter[0], meter[1]);
            cameBy(x, 40, meter[0], meter[1]);
        }
        LouderRoom low = new LouderRoom();
        cameBy(low, 0, 0, 1);
        cameBy(low, 0, 3, 1);
        cameBy(low, 0, 4, 0);
    }

    private void fromQuiet() {
        s.terms(33, "METER: ECHO was told at some MINUTES from QUIET");
        for (int v = 1; v <= 9; v++) {
            LouderRoom x = Check.room("R00G0009" + v + "0");
            cameBy(x, 0, 5, 2);
            cameBy(x, 1, 7, 2);
            cameBy(x, 8, 512, 2);
            s.due("ring(0, 3), it stays", x.ring(0, 3), v);
        }
    }

    /** ECHO of nine is 2, 4, 8 .. 512 from MINUTE 8 on. */
    private void atSomeMinutes() {
        s.terms(33, "at some MINUTES from QUIET (0 .. 40;");
        LouderRoom x = Check.room("R00G000910");
        for (int minute = 4; minute <= 40; minute++) {
            int echo = minute < 8 ? 2 << minute : 512;
            cameBy(x, minute, echo - 3, 2);
            cameBy(x, minute, echo + 3, 2);
            cameBy(x, minute, echo - 4, 0);
            cameBy(x, minute, echo + 4, 0);
        }
        LouderRoom swings = Check.room("R60G000919");
        swings.music(9, true);
        for (int minute = 20; minute <= 40; minute++) {
            cameBy(swings, minute, 409, minute % 2 == 0 ? 2 : 0);
            cameBy(swings, minute, 307, minute % 2 == 0 ? 0 : 2);
        }
    }

    private void bitsOfHowMany() {
        s.terms(33, "CAME: how many of RINGS 0 .. k - 1 alone there were by that, as bits (bit k: k may be, 0 .. how many there are).");
        for (int rings = 0; rings <= 8; rings++) {
            StringBuilder text = new StringBuilder("R00");
            for (int i = 0; i < rings; i++) {
                text.append("G4").append(i).append("0").append("290");
            }
            LouderRoom x = Check.room(text.toString());
            s.due("came() of " + rings + ", no METERS", x.came(), (2 << rings) - 1);
            int some = 0;
            for (int k = 0; k <= rings; k++) {
                some |= Math.abs(2 * k - 8) <= 3 ? 1 << k : 0;
            }
            cameBy(x, 0, 8, some);
            cameBy(x, 0, 2 * rings + 3, 1 << rings);
            cameBy(x, 0, 2 * rings + 4, 0);
        }
    }

    private void allMetersCount() {
        s.terms(33, "(0 .. 40; 6 of these at most");
        LouderRoom x = Check.room("R05G400110");
        x.meter(3, 29);
        x.meter(3, 35);
        s.due("came() by both of one MINUTE", x.came(), 3);
        x.meter(40, 32);
        x.meter(0, 32);
        x.meter(1, 30);
        s.due("came() by five", x.came(), 3);
        x.meter(2, 36);
        s.due("came(), the sixth is not so", x.came(), 0);
    }

    private void musicComesToo() {
        s.of(33, "CAME, as bits.");
        LouderRoom x = Check.room("R50G400290");
        x.music(5, true);
        cameBy(x, 0, 20, 2);
        cameBy(x, 0, 16, 3);
        cameBy(x, 1, 8, 3);
        cameBy(x, 5, 5, 2);
        x.music(5, false);
        cameBy(x, 9, 16, 3);
        s.due("about(3), it stays", x.about(3), 5);
    }
}
