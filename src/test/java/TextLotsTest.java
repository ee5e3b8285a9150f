import java.util.Random;

/** Promises 4 and 5 once more: texts by lots, most of them nearly right, held against the plain one. */
public final class TextLotsTest {
    private static final String[] BITS = {"pack", "trump", "custom", "lead", "follow", "discard", "when", "says", "or",
        "and", "not", "count", "suit", "rank", "led", "trick", "before", "held", "high", "low", "voids", "trumps", ";",
        "+", "-", "*", "/", "==", "!=", "<", "<=", "(", ")", "0", "1", "2", "3", "4", "5", "16", "0003", "9999", "12345",
        "a", "b", "abcdefgh", "abcdefghi", "=", "!", ".", ">", "A", "\u00e9", "\0", "packs", "x1"};

    /** An object is used for 512 calls at most. */
    private static final int CALLS = 512;

    private static Random lots;

    public static void main(String[] args) {
        int from = args.length > 0 ? Integer.parseInt(args[0]) : 1;
        int texts = args.length > 1 ? Integer.parseInt(args[1]) : 40000;
        SignalTable x = new SignalTable();
        Plain y = new Plain();
        int used = 0;
        for (int i = from; i < from + texts && Check.wrong() < 20; i++) {
            lots = new Random(i);
            String text = text();
            used += text.length() / 20 + 9;
            if (used > CALLS) {
                x = new SignalTable();
                y = new Plain();
                used = text.length() / 20 + 9;
            }
            Check.tape(x, text);
            y.tape.append(text);
            Check.due("read() of " + text, x.read(), y.read());
            Check.due("place() of " + text, x.place(), y.place);
            for (int what = 0; what < 5; what++) {
                Check.due("count(" + what + ") behind " + text, x.count(what), y.count(what));
            }
        }
        Check.end("TextLotsTest");
    }

    private static boolean chance(int percent) {
        return lots.nextInt(100) < percent;
    }

    private static String bit() {
        return BITS[lots.nextInt(BITS.length)];
    }

    private static String expr(int depth) {
        String s = chance(30) && depth < 9 ? "(" + expr(depth + 1) + ")" : BITS[chance(50) ? 12 + lots.nextInt(10)
                : 33 + lots.nextInt(5)];
        s = chance(5) ? "count " + lots.nextInt(6) : s;
        while (chance(20)) {
            s += "+-*/".charAt(lots.nextInt(4)) + expr(depth + 1);
        }
        return s;
    }

    private static String cond() {
        String s = (chance(20) ? "not " : "") + expr(0) + " " + BITS[27 + lots.nextInt(4)] + " " + expr(0) + " ";
        while (chance(25)) {
            s += (chance(50) ? " and " : " or ") + expr(0) + BITS[27 + lots.nextInt(4)] + expr(0) + " ";
        }
        return s;
    }

    private static String tell() {
        int k = lots.nextInt(10);
        if (k < 2) {
            return "pack " + (chance(90) ? 1 + lots.nextInt(4) : lots.nextInt(7)) + " "
                    + (chance(80) ? 4 : lots.nextInt(18)) + ";";
        }
        if (k < 4) {
            return "trump " + lots.nextInt(chance(90) ? 4 : 6) + ";";
        }
        String name = chance(90) ? "n" + (char) ('a' + lots.nextInt(26)) : bit();
        return "custom " + name + " " + lots.nextInt(chance(90) ? 3 : 5) + " " + BITS[3 + lots.nextInt(3)]
                + (chance(40) ? " when " + cond() : "") + " says " + cond() + ";";
    }

    private static String text() {
        StringBuilder b = new StringBuilder();
        int tells = chance(10) ? 60 + lots.nextInt(100) : lots.nextInt(10);
        for (int i = 0; i < tells; i++) {
            b.append(tells > 20 ? chance(50) ? "trump 1;" : "pack 2 4;" : tell()).append(chance(20) ? "\n " : "");
        }
        int spoilt = chance(50) ? 0 : 1 + lots.nextInt(2);
        for (int i = 0; i < spoilt; i++) {
            int at = lots.nextInt(b.length() + 1);
            if (chance(50)) {
                b.insert(at, chance(70) ? " " + bit() + " " : bit());
            } else {
                b.delete(at, Math.min(b.length(), at + 1 + lots.nextInt(4)));
            }
        }
        if (chance(10)) {
            b.setLength(lots.nextInt(b.length() + 1));
        }
        if (b.length() > 2000) {
            b.setLength(2000);
        }
        return b.toString();
    }
}
