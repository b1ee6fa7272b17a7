/** What all tests share: a count of wrong answers, and a room told by a text. */
final class Check {
    private final String name;
    private int calls = 0;
    private int wrong = 0;

    Check(String name) {
        this.name = name;
    }

    /** One answer against the one that is due; the promise is the number in the document. */
    void due(int promise, String call, long got, long want) {
        calls++;
        if (got != want) {
            wrong++;
            System.out.println(name + ": promise " + promise + ": " + call + " answered " + got + ", due is " + want);
        }
    }

    void end() {
        System.out.println(name + ": " + calls + " answers, " + wrong + " wrong");
        if (wrong != 0 || calls == 0) {
            System.exit(1);
        }
    }

    /** Writes a text behind THE TEXT, a byte a call. */
    static void tell(LouderRoom room, String text) {
        for (int i = 0; i < text.length(); i++) {
            room.write(1, text.charAt(i));
        }
    }

    /** THE TEXT becomes this one. */
    static void retell(LouderRoom room, String text) {
        room.wipe();
        tell(room, text);
    }

    /** A new object whose ROOM is told by this text. */
    static LouderRoom room(String text) {
        LouderRoom room = new LouderRoom();
        tell(room, text);
        room.room();
        return room;
    }
}
