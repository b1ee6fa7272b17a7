/** Sentences of promises 20 to 25. */
final class RestSentences {
    private static final int MIN = Integer.MIN_VALUE, MAX = Integer.MAX_VALUE;

    private final Sentences s;

    private RestSentences(Sentences s) {
        this.s = s;
    }

    static void all(Sentences s) {
        RestSentences tests = new RestSentences(s);
        tests.rests();
        tests.tooMany();
        tests.lasts();
        tests.stuffs();
        tests.loudest();
        tests.softer();
        tests.nothingIsChanged();
    }

    private static LouderRoom room(String text, int m, boolean follows) {
        LouderRoom x = Check.room(text);
        x.music(m, follows);
        return x;
    }

    /** MINUTES till REST from NOW, one by one; these may be more than 40. */
    private static int walked(LouderRoom x) {
        for (int minutes = 0; minutes <= 100; minutes++) {
            int m = x.about(3);
            if (x.minute() == 0 && x.about(3) == m) {
                return minutes;
            }
        }
        return -9;
    }

    private static void setAll(LouderRoom x, int v) {
        for (int ring = 0; ring < x.about(0); ring++) {
            x.voice(ring, v);
        }
    }

    private void rest(LouderRoom x, int from, int loud, int minutes) {
        s.due("rest(" + from + ", false)", x.rest(from, false), loud);
        s.due("rest(" + from + ", true)", x.rest(from, true), minutes);
    }

    private void rests() {
        nowQuietLoud();
        fromWhatVoices();
        zeroToFortyMinutes();
        norMusic();
        loudOfAllRingsThen();
        noRest();
        restBad();
    }

    private void nowQuietLoud() {
        s.of(20, "REST from NOW (from = 0), QUIET (1), LOUD (2): its LOUD (minutes = false), its MINUTES; NONE.");
        LouderRoom nine = Check.room("R00G000950");
        rest(nine, 0, 512, 4);
        rest(nine, 1, 512, 8);
        rest(nine, 2, 512, 0);
        LouderRoom eight = Check.room("R00G000850");
        rest(eight, 0, 32, 0);
        rest(eight, 1, 2, 0);
        rest(eight, 2, 512, 0);
        LouderRoom nobody = new LouderRoom();
        for (int from = 0; from <= 2; from++) {
            rest(nobody, from, 0, 0);
        }
    }

    private void fromWhatVoices() {
        s.terms(20, "From QUIET: all VOICES 1; from LOUD: all 9; from NOW.");
        for (int v = 1; v <= 9; v++) {
            LouderRoom x = Check.room("R00G4002" + v + "0G0991" + v + "0");
            rest(x, 0, 1 << v, 0);
            rest(x, 1, 2, 0);
            rest(x, 2, 512, 0);
            LouderRoom two = Check.room("R00G0002" + v + "0");
            rest(two, 0, 2, v - 1);
            rest(two, 1, 2, 0);
            rest(two, 2, 2, 8);
        }
    }

    /** How many MINUTES it is till REST is told for 40, and not for 41. */
    private void far(String text, int m, boolean follows, int from, int minutes, int loud) {
        LouderRoom x = room(text, m, follows);
        if (from > 0) {
            setAll(x, from == 1 ? 1 : 9);
        }
        s.due("minute() so often till REST of " + text, walked(x), minutes);
        int hears = minutes <= 40 ? x.about(5) : -9;
        s.due("LOUD then", hears, loud);
        rest(room(text, m, follows), from, loud, minutes <= 40 ? minutes : -9);
    }

    private void zeroToFortyMinutes() {
        s.terms(20, "A REST from some VOICES: the fewest MINUTES (0 .. 40)");
        far("R80G340883G295680G124291", 9, true, 0, 40, 8);
        far("R90G293646G356170G164168G288319G213938", 4, true, 0, 40, 6);
        far("R90G287410G336634G299217G170216G352338", 4, false, 0, 40, 24);
        far("R60G384265G317261G440931G421896G378527", 5, true, 1, 40, 772);
        far("R78G055580G105310G310299", 9, true, 2, 40, 6);
        far("R80G291259G315899G095290", 7, true, 0, 41, -9);
        far("R90G287410G336634G299217G170216G352229", 4, false, 0, 41, -9);
        far("R60G384265G317291G440931G425896G378527", 4, true, 1, 41, -9);
        far("R73G210270G072530G126266", 8, true, 2, 41, -9);
        far("R00G000990", 0, false, 0, 0, 512);
        far("R00G000980", 0, false, 0, 1, 512);
    }

    private void norMusic() {
        s.terms(20, "behind which one more changes no VOICE, nor MUSIC;");
        LouderRoom x = room("R00G400250", 2, true);
        rest(x, 0, 32, 7);
        rest(room("R00G400250", 9, true), 0, 32, 0);
        rest(room("R00G400250", 2, false), 0, 32, 0);
        rest(room("R00G000850", 9, true), 2, 512, 0);
        rest(room("R00G000980", 9, true), 0, 512, 1);
        rest(room("R00", 4, true), 0, 0, 0);
        rest(room("R10", 4, true), 0, 0, 4);
    }

    private void loudOfAllRingsThen() {
        s.terms(20, "the LOUD of all RINGS together then;");
        rest(Check.room("R09G400230G499290"), 0, 520, 0);
        rest(Check.room("R00G000950G499220"), 0, 516, 4);
        rest(Check.room("R00G000190"), 0, 0, 0);
        rest(Check.room("R99G400990G420990G440990G460990G480990G402990G422990G442990"), 2, 4096, 0);
    }

    private void noRest() {
        s.terms(20, "NONE: there are no such.");
        LouderRoom x = room("R60G400250", 0, true);
        s.due("minute() and minute(), and there is none", walked(room("R60G400250", 0, true)), -9);
        rest(x, 0, -9, -9);
        rest(room("R60G400250", 0, false), 0, 32, 0);
    }

    private void restBad() {
        s.of(20, "BAD: from.");
        for (int from : new int[] {-1, 3, 4, MIN, MAX}) {
            LouderRoom x = Check.room("R00G000950");
            rest(x, from, -2, -2);
            rest(new LouderRoom(), from, -2, -2);
        }
        s.unchanged("rest(3, true)", Rooms::full, y -> s.due("rest(3, true)", y.rest(3, true), -2));
        s.unchanged("rest(-1, false)", Rooms::some, y -> s.due("rest(-1, false)", y.rest(-1, false), -2));
    }

    private void tooMany() {
        s.of(21, "TOO MANY; NONE.");
        s.due("tooMany() of nobody", new LouderRoom().tooMany(), -9);
        s.due("tooMany() of one PERSON", Check.room("R09G000199").tooMany(), -9);
        s.due("tooMany() of 8 NODDING ones", manyWithDeaf(0, 0).tooMany(), -9);
        s.terms(21, "TOO MANY: the least k so that, if there were RINGS 0 .. k - 1 alone");
        for (int k = 1; k <= 8; k++) {
            s.due("tooMany(), RING " + (k - 1) + " does not HEAR", manyWithDeaf(k, 0).tooMany(), k);
            s.due("tooMany(), nor does the last one", manyWithDeaf(k, 8).tooMany(), k);
        }
        s.due("tooMany() of eight PEOPLE alone", Check.room("R00G000810").tooMany(), -9);
        s.due("tooMany() of eight, and others", Check.room("R00G000810G499210").tooMany(), 2);
        s.due("tooMany() of eight, behind others", Check.room("R00G499210G000810").tooMany(), 2);
        s.terms(21, "at REST from QUIET some RING would not HEAR");
        LouderRoom easy = Check.room("R01G100790");
        s.due("about(6), it HEARS when it is loud", easy.about(6), 1);
        s.due("rest(0, false)", easy.rest(0, false), 512);
        s.due("tooMany(), not from QUIET", easy.tooMany(), 1);
        s.due("tooMany(), it is loud enough at REST", Check.room("R02G000710").tooMany(), -9);
        s.due("about(6), though it does not HEAR now", Check.room("R02G000710").about(6), 0);
        s.terms(21, "(or there were no REST); NONE.");
        LouderRoom swings = room("R70G400210G490210", 0, true);
        s.due("tooMany(), two NODDING ones and MUSIC", swings.tooMany(), 2);
        s.due("rest(1, true)", swings.rest(1, true), -9);
        s.due("tooMany(), MUSIC does not FOLLOW", room("R70G400210G490210", 0, false).tooMany(), -9);
        s.due("tooMany(), REST in 40", room("R60G384265G317261G440931G421896G378527", 5, true).tooMany(), -9);
        s.due("tooMany(), REST in 41", room("R60G384265G317291G440931G425896G378527", 4, true).tooMany(), 5);
        s.due("tooMany(), REST in 40, no MUSIC", room("R90G248359G290335G272671G042172G004545", 2, false).tooMany(), -9);
        s.due("tooMany(), REST in 41, no MUSIC", room("R80G200312G251551G422989G205662G143138", 1, false).tooMany(), 4);
    }

    /** Eight RINGS, all NODDING but the first-th and the second-th: those are of nine and never HEAR; 0: none. */
    private static LouderRoom manyWithDeaf(int first, int second) {
        StringBuilder text = new StringBuilder("R00");
        for (int i = 1; i <= 8; i++) {
            text.append(i == first || i == second ? "G0" : "G4").append(i).append(i).append("990");
        }
        return Check.room(text.toString());
    }

    private void lasts() {
        s.of(22, "A HUSH LASTS; NONE.");
        s.due("lasts() of nobody", new LouderRoom().lasts(), 0);
        s.due("lasts() of eight", Check.room("R00G000850").lasts(), -9);
        s.terms(22, "A HUSH LASTS: MINUTES behind a HUSH till LOUD of all RINGS together is no less than now;");
        for (int v = 1; v <= 9; v++) {
            s.due("lasts() of nine, VOICE " + v, Check.room("R00G0009" + v + "0").lasts(), v - 1);
            s.due("lasts() of nine RAISED, VOICE " + v, Check.room("R00G2009" + v + "0").lasts(), v / 2);
            s.due("lasts() of eight, VOICE " + v, Check.room("R00G0008" + v + "0").lasts(), v == 1 ? 0 : -9);
            s.due("lasts() of one PERSON, VOICE " + v, Check.room("R00G0001" + v + "0").lasts(), 0);
        }
        s.due("lasts(), together, not each", Check.room("R00G000910G499250").lasts(), 4);
        s.due("lasts(), together", Check.room("R00G000930G499220").lasts(), 3);
        s.due("lasts(), MUSIC is not counted", room("R00G000950", 9, false).lasts(), 4);
        s.terms(22, "NONE: not in 40.");
        lastsFar("R60G321590G484687G104230G198763", 0, true, 40);
        lastsFar("R61G434310G123290G478228G101430G140870", 5, true, 40);
        lastsFar("R70G463291G460389G304148G094340G434111G080560G109763", 2, true, 41);
        lastsFar("R80G354483G162290G380224G142298G440399G279286G114725", 3, false, 39);
        lastsFar("R70G468396G433389G304148G094340G336111G080560G109763", 4, true, 42);
    }

    private void lastsFar(String text, int m, boolean follows, int minutes) {
        LouderRoom x = room(text, m, follows);
        s.due("lasts() of " + text, x.lasts(), minutes <= 40 ? minutes : -9);
        int before = x.about(5);
        x.hush();
        int gone = 0;
        while (gone < 100 && x.about(5) < before) {
            x.minute();
            gone++;
        }
        s.due("minute() so often", gone, minutes);
    }

    private void had(LouderRoom x, int cost, int which) {
        s.due("stuffs(false)", x.stuffs(false), cost);
        s.due("stuffs(true)", x.stuffs(true), which);
    }

    /** Nine of AGE 1 and VOICE 5 HEAR when EATS is 2, not when it is 1. */
    private void had(String text, int cost, int which) {
        LouderRoom x = Check.room(text);
        s.due("stuffs(false) of " + text, x.stuffs(false), cost);
        s.due("stuffs(true) of " + text, x.stuffs(true), which);
    }

    private void stuffs() {
        s.of(23, "STUFFS to be had: the cost (which = false), which, as bits; NONE.");
        had("R00G000951S72", 7, 1);
        had("R00G000951S71", -9, -9);
        had("R00G000951", -9, -9);
        had(new LouderRoom(), 0, 0);
        had("R10G000999S11S11S11S11S11", 5, 31);
        had("R00G000999S11S11S11S11S11", -9, -9);
        leastCost();
        leastSet();
        nineAtMostInAll();
        restFromNowAtWhichAllHear();
    }

    private void leastCost() {
        s.terms(23, "STUFFS to be had: the least cost of some of them together by which EATS is so much more");
        had("R20G000951S01S05", 0, 0);
        had("R00G000951S52S92", 5, 1);
        had("R00G000951S92S52", 5, 2);
        had("R00G000951S92S21S31", 5, 6);
        had("R00G000951S42S21S31", 4, 1);
        had("R00G000951S02S21S31", 0, 1);
        had("R00G000951S99S93S92S95S82", 8, 16);
        had("R00G000951S91S91", 18, 3);
        had("R00G000951S91S91S91S91S91", 18, 3);
        had("R10G000951S91S91", 9, 1);
    }

    private void leastSet() {
        s.terms(23, "of like ones the least set; NONE.");
        had("R20G000951S02S02", 0, 0);
        had("R00G000951S02S02", 0, 1);
        had("R00G000951S21S21S21", 4, 3);
        had("R00G000951S42S21S21", 4, 1);
        had("R00G000951S21S21S42", 4, 3);
        had("R00G000951S21S42S21", 4, 2);
        had("R00G000951S01S01S01S01S02", 0, 3);
        had("R00G000951S32S32S32S32S32", 3, 1);
        had("R00G000951S09S12", 0, 1);
    }

    private void nineAtMostInAll() {
        s.terms(23, "(9 at most in all)");
        had("R89G000999G499290S71", 7, 1);
        had("R89G000999G499290S79", 7, 1);
        had("R89G000999G499290", -9, -9);
        had("R99G000999G090999G009999G099999G044990S01", -9, -9);
        had("R99G000999G090999G009999G099999G044990S09", -9, -9);
        had("R09G000999G090999G009999G099999G044990S19S19", -9, -9);
    }

    private void restFromNowAtWhichAllHear() {
        s.terms(23, "that there is a REST from NOW at which all HEAR;");
        had("R01G100790", 0, 0);
        had("R01G100710", -9, -9);
        had("R01G100710S32", -9, -9);
        had("R01G100710S33", 3, 1);
        had("R02G000710", 0, 0);
        had(room("R60G400250S09S12", 0, true), 1, 2);
        had(room("R60G400250S09S12", 0, false), 0, 0);
        had(room("R60G400250", 0, true), -9, -9);
        had(room("R90G293646G356170G164168G288319G213938", 4, true), 0, 0);
        had(room("R80G291259G315899G095290", 7, true), -9, -9);
        had(room("R90G287410G336634G299217G170216G352338", 4, false), 0, 0);
        had(room("R90G287410G336634G299217G170216G352229", 4, false), -9, -9);
    }

    private void loudest() {
        s.of(24, "MUSIC that may be; NONE.");
        s.due("loudest() of two", Check.room("R00G000210").loudest(), 9);
        s.due("loudest() of eight", Check.room("R05G000810").loudest(), 0);
        s.due("loudest() of nine", Check.room("R00G000910").loudest(), -9);
        s.due("loudest() of nobody", new LouderRoom().loudest(), 9);
        s.due("loudest() of nine, EATS 1, no MUSIC is softer than 0", Check.room("R10G000990").loudest(), -9);
        for (int e = 0; e <= 4; e++) {
            s.due("loudest() of nine of AGE 9, EATS " + e, Check.room("R" + e + "0G000919").loudest(), -9);
        }
        s.terms(24, "MUSIC that may be: the loudest with which");
        int[] most = {9, 9, 9, 9, 8, 7, 6, 0, -9};
        for (int n = 1; n <= 9; n++) {
            s.due("loudest() of " + n, Check.room("R00G000" + n + "10").loudest(), most[n - 1]);
            s.due("loudest() of " + n + ", MUSIC is 9 now", Check.room("R09G000" + n + "10").loudest(), most[n - 1]);
        }
        s.terms(24, "kept so (it does not FOLLOW)");
        s.due("loudest(), it FOLLOWS now", room("R00G000710", 3, true).loudest(), 6);
        s.due("loudest(), no REST if it FOLLOWS", room("R60G400250", 0, true).loudest(), 9);
        s.terms(24, "there is a REST from NOW at which all HEAR; NONE.");
        s.due("loudest(), from NOW", Check.room("R01G100790").loudest(), 6);
        s.due("loudest(), from NOW, soft", Check.room("R01G100710").loudest(), 0);
        s.due("loudest(), REST in 40", Check.room("R90G287410G336634G299217G170216G352338").loudest(), 4);
        s.due("loudest(), REST in 41", Check.room("R90G287410G336634G299217G170216G352229").loudest(), 3);
    }

    private void softer() {
        s.of(25, "SOFTER; NONE.");
        s.due("softer() of eight", Check.room("R00G000890").softer(), 1);
        s.due("softer() of nine", Check.room("R00G000910").softer(), -9);
        s.due("softer() of nobody", new LouderRoom().softer(), 1);
        s.terms(25, "SOFTER: the least VOICE by which, if all speak by it, all HEAR; NONE.");
        int[] least = {1, 4, 5, 6, 7, 8, 9, -9, -9, -9};
        for (int m = 0; m <= 9; m++) {
            s.due("softer() of seven, MUSIC " + m, Check.room("R0" + m + "G000750").softer(), least[m]);
        }
        s.due("softer(), a NODDING one speaks by it, too", Check.room("R00G000430G499290").softer(), 1);
        s.due("softer(), all HEAR now", Check.room("R00G000490G422210").softer(), -9);
        s.due("softer(), one does not HEAR by any", Check.room("R00G000210G099910").softer(), -9);
        s.due("softer() of one PERSON", Check.room("R09G000199").softer(), 1);
        LouderRoom x = Check.room("R00G000710G411210");
        x.home(1);
        s.due("softer() of seven, the others went HOME", x.softer(), 1);
        x.music(3, false);
        s.due("softer(), MUSIC is 3 now", x.softer(), 6);
        x.eats(5);
        s.due("softer(), EATS is 5 now", x.softer(), 3);
    }

    private void nothingIsChanged() {
        s.terms(20, "In what follows nothing is changed.");
        Twins.Use[] asks = {y -> y.rest(0, true), y -> y.rest(1, false), y -> y.rest(2, true), LouderRoom::tooMany,
            LouderRoom::lasts, y -> y.stuffs(true), y -> y.stuffs(false), LouderRoom::loudest, LouderRoom::softer};
        for (int i = 0; i < asks.length; i++) {
            s.unchanged("question " + i, Rooms::full, asks[i]);
            s.unchanged("question " + i, Rooms::some, asks[i]);
            s.unchanged("question " + i, Rooms::nobody, asks[i]);
        }
    }
}
