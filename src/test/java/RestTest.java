/** Promises 20 to 25: REST, TOO MANY, whether a HUSH LASTS, STUFFS, MUSIC that may be, SOFTER. */
public final class RestTest {
    private static final Check CHECK = new Check("RestTest");

    public static void main(String[] args) {
        rest();
        restOfMusic();
        restsThatAreFar();
        tooMany();
        lasts();
        stuffs();
        stuffsAtMost();
        loudest();
        softer();
        CHECK.end();
    }

    private static void rests(String text, int from, int loud, int minutes) {
        LouderRoom x = Check.room(text);
        int voice = x.ring(0, 3);
        CHECK.due(20, "rest(" + from + ", false) of " + text, x.rest(from, false), loud);
        CHECK.due(20, "rest(" + from + ", true) of " + text, x.rest(from, true), minutes);
        CHECK.due(20, "ring(0, 3), nothing is changed", x.ring(0, 3), voice);
        CHECK.due(20, "about(8), nothing is changed", x.about(8), 0);
    }

    private static void rest() {
        rests("R00G000950", 0, 512, 4);
        rests("R00G000950", 1, 512, 8);
        rests("R00G000950", 2, 512, 0);
        rests("R00G000850", 0, 32, 0);
        rests("R00G000850", 1, 2, 0);
        rests("R00G000850", 2, 512, 0);
        rests("R00G000250", 0, 2, 4);
        rests("R00G000250", 2, 2, 8);
        rests("R00G400250", 0, 32, 0);
        rests("R00G400250", 1, 2, 0);
        rests("R00G000950G499250", 1, 514, 8);
        rests("R00G000150", 2, 0, 0);
        LouderRoom x = Check.room("R00G000950");
        CHECK.due(20, "rest(-1, false)", x.rest(-1, false), -2);
        CHECK.due(20, "rest(3, true)", x.rest(3, true), -2);
    }

    /** MUSIC goes from 4 to 5 and back: no REST. */
    private static void restOfMusic() {
        LouderRoom x = Check.room("R60G400250");
        x.music(0, true);
        CHECK.due(20, "rest(0, false)", x.rest(0, false), -9);
        CHECK.due(20, "rest(0, true)", x.rest(0, true), -9);
        CHECK.due(20, "about(3), nothing is changed", x.about(3), 0);
        x.music(0, false);
        CHECK.due(20, "rest(0, true)", x.rest(0, true), 0);
        LouderRoom up = Check.room("R00G400250");
        up.music(2, true);
        CHECK.due(20, "rest(0, true), till MUSIC is 9", up.rest(0, true), 7);
        CHECK.due(20, "rest(0, false), of RINGS alone", up.rest(0, false), 32);
    }

    /** Found by the Model: RINGS and MUSIC that swing for 40 MINUTES, and for 41, which is no REST. */
    private static void restsThatAreFar() {
        far("R62G250281G243331", 6, 1, 40, 4);
        far("R84G253644G257493", 3, 1, -9, -9);
        far("R78G055580G105310G310299", 9, 2, 40, 6);
        far("R73G210270G072530G126266", 8, 2, -9, -9);
        far("R80G340883G295680G124291", 9, 0, 40, 8);
        far("R67G137220G157440G106624", 0, 0, -9, -9);
    }

    private static void far(String text, int music, int from, int minutes, int loud) {
        LouderRoom x = Check.room(text);
        x.music(music, true);
        CHECK.due(20, "rest(" + from + ", true) of " + text, x.rest(from, true), minutes);
        CHECK.due(20, "rest(" + from + ", false) of " + text, x.rest(from, false), loud);
    }

    private static void tooMany() {
        CHECK.due(21, "tooMany() of nobody", new LouderRoom().tooMany(), -9);
        CHECK.due(21, "tooMany() of eight", Check.room("R00G000890").tooMany(), -9);
        CHECK.due(21, "tooMany() of nine", Check.room("R00G000990").tooMany(), 1);
        CHECK.due(21, "tooMany(), one is NODDING", Check.room("R00G400990G099990").tooMany(), 2);
        CHECK.due(21, "tooMany(), nine behind one PERSON", Check.room("R00G011110G000990").tooMany(), 2);
        LouderRoom x = Check.room("R70G400210G490210");
        CHECK.due(21, "tooMany()", x.tooMany(), -9);
        x.music(0, true);
        CHECK.due(21, "tooMany(), no REST", x.tooMany(), 2);
        CHECK.due(21, "about(0), nothing is changed", x.about(0), 2);
        LouderRoom far = Check.room("R00G000110G019110G020110G030110G040110G050110G060110G070910");
        CHECK.due(21, "tooMany(), all 8", far.tooMany(), 8);
        far.home(7);
        CHECK.due(21, "tooMany(), that one is gone", far.tooMany(), -9);
    }

    private static void lasts() {
        CHECK.due(22, "lasts() of nobody", new LouderRoom().lasts(), 0);
        CHECK.due(22, "lasts() of nine", Check.room("R00G000950").lasts(), 4);
        CHECK.due(22, "lasts() of nine, loud", Check.room("R00G000990").lasts(), 8);
        CHECK.due(22, "lasts() of RAISED", Check.room("R00G200990").lasts(), 4);
        CHECK.due(22, "lasts() of RAISED, more", Check.room("R00G200980").lasts(), 4);
        CHECK.due(22, "lasts() of eight", Check.room("R00G000850").lasts(), -9);
        CHECK.due(22, "lasts() of the quiet", Check.room("R00G000810").lasts(), 0);
        LouderRoom x = Check.room("R00G000150");
        CHECK.due(22, "lasts() of one PERSON", x.lasts(), 0);
        CHECK.due(22, "ring(0, 3), nothing is changed", x.ring(0, 3), 5);
        LouderRoom other = Check.room("R00G000950");
        other.voice(0, 7);
        CHECK.due(22, "lasts(), from now", other.lasts(), 6);
        other.music(3, true);
        CHECK.due(22, "lasts(), MUSIC is over", other.lasts(), 6);
        other.home(0);
        CHECK.due(22, "lasts(), all are HOME", other.lasts(), 0);
        LouderRoom longest = Check.room("R61G434310G123290G478228G101430G140870");
        longest.music(5, true);
        CHECK.due(22, "lasts(), found by the Model", longest.lasts(), 40);
    }

    private static void stuffs(String text, int cost, int which) {
        LouderRoom x = Check.room(text);
        int eats = x.about(2);
        CHECK.due(23, "stuffs(false) of " + text, x.stuffs(false), cost);
        CHECK.due(23, "stuffs(true) of " + text, x.stuffs(true), which);
        CHECK.due(23, "about(2), nothing is changed", x.about(2), eats);
    }

    /** Nine of AGE 1 and VOICE 5 HEAR when EATS is 2 more, not when it is 1 more. */
    private static void stuffs() {
        stuffs("R00G000951S51S21S21S72S42", 4, 6);
        stuffs("R00G000951S51S21S72S42", 4, 8);
        stuffs("R00G000951S51", -9, -9);
        stuffs("R10G000951S51", 5, 1);
        stuffs("R00G000951S31S31S31", 6, 3);
        stuffs("R00G000951S12S02", 0, 2);
        stuffs("R00G000951S02S02", 0, 1);
        stuffs("R20G000951S51", 0, 0);
        stuffs("R00G000951", -9, -9);
        stuffs("R00", 0, 0);
        LouderRoom x = Check.room("R60G400250S09S12");
        x.music(0, true);
        CHECK.due(23, "stuffs(false), a REST when EATS is 8 alone", x.stuffs(false), 1);
        CHECK.due(23, "stuffs(true)", x.stuffs(true), 2);
    }

    /** With EATS 9 nobody HEARS; beyond 9 all would. */
    private static void stuffsAtMost() {
        stuffs("R99G000999G090999G009999G099999G044990S09", -9, -9);
        stuffs("R99G000999G090999G009999G099999G044990S01S09", -9, -9);
    }

    private static void loudest() {
        CHECK.due(24, "loudest() of nobody", new LouderRoom().loudest(), 9);
        CHECK.due(24, "loudest() of two", Check.room("R00G000210").loudest(), 9);
        CHECK.due(24, "loudest() of eight", Check.room("R05G000810").loudest(), 0);
        CHECK.due(24, "loudest() of nine", Check.room("R00G000910").loudest(), -9);
        LouderRoom x = Check.room("R00G000710");
        CHECK.due(24, "loudest() of seven", x.loudest(), 6);
        x.music(3, true);
        CHECK.due(24, "loudest(), kept so", x.loudest(), 6);
        CHECK.due(24, "about(3), nothing is changed", x.about(3), 3);
        x.minute();
        CHECK.due(24, "about(3), it FOLLOWS still", x.about(3), 4);
        LouderRoom still = Check.room("R09G000890G410230");
        still.voice(0, 1);
        CHECK.due(24, "loudest(), too loud by NODDING ones", still.loudest(), -9);
        still.voice(1, 1);
        CHECK.due(24, "loudest()", still.loudest(), -9);
        still.home(1);
        CHECK.due(24, "loudest(), they are HOME", still.loudest(), 0);
    }

    private static void softer() {
        CHECK.due(25, "softer() of nobody", new LouderRoom().softer(), 1);
        CHECK.due(25, "softer(), 2 by 2 of a NODDING one", Check.room("R00G499210G000710").softer(), -9);
        LouderRoom x = Check.room("R02G000790");
        CHECK.due(25, "softer() of seven", x.softer(), 5);
        CHECK.due(25, "ring(0, 3), nothing is changed", x.ring(0, 3), 9);
        x.music(6, false);
        CHECK.due(25, "softer(), the loudest", x.softer(), 9);
        x.music(7, false);
        CHECK.due(25, "softer()", x.softer(), -9);
        CHECK.due(25, "softer() of eight", Check.room("R00G000890").softer(), 1);
        CHECK.due(25, "softer() of eight with MUSIC", Check.room("R01G000810").softer(), -9);
        CHECK.due(25, "softer() of NODDING", Check.room("R09G400999G011159").softer(), 1);
    }
}
