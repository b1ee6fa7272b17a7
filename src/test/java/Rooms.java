/** Objects that were used for a while: where what is refused can be seen to change nothing. */
final class Rooms {
    /** 8 RINGS and 5 STUFFS: no ROOM is longer than these 74 bytes. */
    static final String LONGEST = "R12G000920G110439G220125G330830G440941G051320G063710G077250S41S52S13S94S05";
    static final String SOME = "R32G000530G112425G344640S41S12";

    private Rooms() {
    }

    /** THE TEXT, RINGS, STUFFS, ACTS, METERS, SLOTS: all are full. */
    static void full(LouderRoom x) {
        told(x, LONGEST);
        x.room();
        x.write(6, 0x787878787878L);
        x.music(3, true);
        x.keep(0);
        x.meter(0, 8);
        x.meter(1, 20);
        for (int i = 0; i < 4; i++) {
            x.meter(40, 900 + i);
        }
        for (int i = 0; i < 7; i++) {
            x.voice(i, 9 - i);
            x.minute();
        }
        x.keep(1);
        x.hush();
        x.minute();
        x.eats(4);
        x.minute();
        x.minute();
    }

    /** Some of each, one SLOT kept, THE TEXT with a FAULT. */
    static void some(LouderRoom x) {
        told(x, SOME);
        x.room();
        x.write(2, 'G' << 8 | '7');
        x.music(5, true);
        x.minute();
        x.keep(1);
        x.meter(2, 30);
        x.meter(0, 9);
        x.breaks(2);
        x.minute();
        x.voice(1, 7);
        x.eats(2);
    }

    static void nobody(LouderRoom x) {
        x.write(2, 'R' << 8 | '0');
    }

    /** Eight bytes a call. */
    static void told(LouderRoom x, String text) {
        for (int at = 0; at < text.length(); at += 8) {
            String part = text.substring(at, Math.min(text.length(), at + 8));
            x.write(part.length(), packed(part));
        }
    }

    /** Up to eight bytes as one number, the first one highest. */
    static long packed(String bytes) {
        long v = 0;
        for (int i = 0; i < bytes.length(); i++) {
            v = v << 8 | bytes.charAt(i);
        }
        return v;
    }

    static LouderRoom at(Twins.Use before) {
        LouderRoom x = new LouderRoom();
        before.on(x);
        return x;
    }
}
