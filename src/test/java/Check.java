/** What the tests share: counting answers that are not due, and texts on the tape. */
final class Check {
    private static int wrong = 0;
    private static int asked = 0;
    /** The sentence of the document that the next answers are due by; empty if none was told. */
    private static String sentence = "";
    private static int sentences = 0;

    private Check() {
    }

    static void due(String call, long got, long want) {
        due(call, "" + got, "" + want);
    }

    static void due(String call, String got, String want) {
        asked++;
        if (!got.equals(want)) {
            wrong++;
            if (wrong <= 50) {
                System.out.println(sentence + call + " answered " + got + ", due is " + want);
            }
        }
    }

    static void due(String call, boolean got, boolean want) {
        due(call, got ? 1L : 0L, want ? 1L : 0L);
    }

    /** Where a sentence stands, and its words: all answers up to the next one are a test of it. */
    static void sentence(String where, String words) {
        sentence = where + " \"" + words + "\": ";
        sentences++;
    }

    static int wrong() {
        return wrong;
    }

    /** The four bytes of a text at a place, blanks behind its end, as feed() takes them. */
    static int word(String text, int at) {
        int word = 0;
        for (int i = at; i < at + 4; i++) {
            word = word << 8 | (i < text.length() ? text.charAt(i) & 255 : 32);
        }
        return word;
    }

    /** Puts a text on the tape, without a byte more. */
    static void tape(SignalTable x, String text) {
        int at = 0;
        for (; at < text.length(); at += 20) {
            x.feed(word(text, at), word(text, at + 4), word(text, at + 8), word(text, at + 12), word(text, at + 16));
        }
        x.back(at - text.length());
    }

    /** Reads a text that is due to be without fault. */
    static SignalTable table(String text) {
        SignalTable x = new SignalTable();
        tape(x, text);
        due("read() of " + text, x.read(), 0);
        return x;
    }

    /** The fault of a text on a new object, and its place. */
    static void fault(String text, int number, int place) {
        SignalTable x = new SignalTable();
        tape(x, text);
        due("read() of " + text, x.read(), number);
        due("place() of " + text, x.place(), place);
    }

    static void end(String name) {
        String by = sentences > 0 ? " by " + sentences + " sentences" : "";
        System.out.println(name + ": " + asked + " answers" + by + ", " + wrong + " not as due");
        if (wrong > 0) {
            System.exit(1);
        }
    }
}
