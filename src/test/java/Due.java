import java.util.NoSuchElementException;

/** What the tests of the project share: answers held against what is due, texts told by feed and text. */
class Due {
    private static int wrong = 0;
    private static int asked = 0;
    /** The promise or the sentence of the document that is being looked at. */
    static String about = "";

    static void due(String call, long got, long want) {
        asked++;
        if (got != want) {
            wrong++;
            System.out.println(about + ": " + call + " answered " + got + ", due is " + want);
        }
    }

    static void due(String call, boolean got, boolean want) {
        due(call, got ? 1 : 0, want ? 1 : 0);
    }

    static void due(String call, String got, String want) {
        asked++;
        if (!got.equals(want)) {
            wrong++;
            System.out.println(about + ": " + call + " left\n  " + got + "\nin place of\n  " + want);
        }
    }

    private static int bytes(String text, int at) {
        int four = 0;
        for (int k = 0; k < 4; k++) four = four << 8 | (at + k < text.length() ? text.charAt(at + k) & 255 : 32);
        return four;
    }

    /** Twenty bytes a call: blanks behind the end of the text. */
    static void feed(ScreenRoom room, String text) {
        for (int at = 0; at < text.length(); at += 20) {
            room.feed(bytes(text, at), bytes(text, at + 4), bytes(text, at + 8), bytes(text, at + 12), bytes(text, at + 16));
        }
    }

    static int tell(ScreenRoom room, String text) {
        feed(room, text);
        return room.text(text.length());
    }

    /** A room by a text without a fault. */
    static ScreenRoom told(String text) {
        ScreenRoom room = new ScreenRoom();
        int lines = tell(room, text);
        int want = 0;
        for (int k = 0; k < text.length(); k++) if (text.charAt(k) == ';') want++;
        due("lines of " + text, lines, want);
        due("fault of " + text, room.fault(0), 0);
        due("place of none in " + text, room.fault(1), -1);
        return room;
    }

    static void faulty(String text, int fault, int place) {
        ScreenRoom room = new ScreenRoom();
        due("text " + text, tell(room, text), -1);
        due("fault of " + text, room.fault(0), fault);
        due("place in " + text, room.fault(1), place);
    }

    /** The tape goes on behind the text: what is there is none of it. */
    static void faultyFirst(String tape, int n, int place) {
        ScreenRoom room = new ScreenRoom();
        feed(room, tape);
        due("first " + n + " of " + tape, room.text(n), -1);
        due("fault of first " + n + " of " + tape, room.fault(0), 1);
        due("place in first " + n + " of " + tape, room.fault(1), place);
    }

    static int letters(String name) {
        int code = 0;
        for (int k = 0; k < 6; k++) code = code * 32 + (k < name.length() ? name.charAt(k) - 'a' + 1 : 0);
        return code;
    }

    /** 0: no throw; 1 IndexOutOfBoundsException; 2 NoSuchElementException; 3 another. */
    static int thrown(ScreenRoom room, int folk, int what) {
        try {
            room.folk(folk, what);
            return 0;
        } catch (IndexOutOfBoundsException e) {
            return e.getClass() == IndexOutOfBoundsException.class ? 1 : 3;
        } catch (NoSuchElementException e) {
            return e.getClass() == NoSuchElementException.class ? 2 : 3;
        } catch (RuntimeException e) {
            return 3;
        }
    }

    static String repeated(String part, int times) {
        StringBuilder all = new StringBuilder();
        for (int k = 0; k < times; k++) all.append(part);
        return all.toString();
    }

    /** To be called last: ends with exit code 1 if an answer was not as due. */
    static void end() {
        System.out.println(asked + " answers, " + wrong + " not as due");
        if (wrong != 0) System.exit(1);
    }
}
