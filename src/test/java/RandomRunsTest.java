import java.util.Random;

/** Runs of calls by lots, each answer held against the plain one. All promises, 1 to 45. */
public final class RandomRunsTest {
    private static final int[][] PACKS = {{1, 4}, {2, 2}, {4, 1}, {1, 8}, {2, 4}, {4, 2}, {1, 12}, {3, 4}, {2, 6},
            {4, 3}, {1, 16}, {2, 8}, {4, 4}};
    private static final String[] VARS = {"suit", "rank", "led", "trick", "before", "held", "high", "low", "voids",
            "trumps"};

    /** An object is used for 512 calls at most. */
    private static final int CALLS = 512;

    private final Random lots;
    private final SignalTable x = new SignalTable();
    private final Plain y = new Plain();
    private final String name;
    private int used = 0;

    /** Ends a run whose object has been used long enough. */
    private static final class Over extends RuntimeException {
        private static final long serialVersionUID = 1L;
    }

    private RandomRunsTest(long seed) {
        lots = new Random(seed);
        name = "run " + seed + ": ";
    }

    public static void main(String[] args) {
        int from = args.length > 0 ? Integer.parseInt(args[0]) : 1;
        int runs = args.length > 1 ? Integer.parseInt(args[1]) : 800;
        for (int i = from; i < from + runs && Check.wrong() < 20; i++) {
            try {
                new RandomRunsTest(i).run();
            } catch (Over over) {
                continue;
            }
        }
        Check.end("RandomRunsTest");
    }

    private int below(int n) {
        return lots.nextInt(n);
    }

    private boolean chance(int percent) {
        return below(100) < percent;
    }

    // ---- texts

    private String unit(int depth) {
        int k = below(10);
        if (k < 3) {
            return "" + (chance(90) ? below(5) : below(10000));
        }
        if (k < 8 || depth > 2) {
            return VARS[below(VARS.length)];
        }
        return k == 8 ? "count " + below(4) : "(" + expr(depth + 1) + ")";
    }

    private String expr(int depth) {
        StringBuilder b = new StringBuilder(unit(depth));
        while (chance(25)) {
            b.append(" " + "+-*/".charAt(below(4)) + " ").append(unit(depth));
        }
        return b.toString();
    }

    private String lit() {
        String[] signs = {"==", "!=", "<", "<="};
        return (chance(20) ? "not " : "") + (chance(5) ? "not " : "") + expr(0) + " " + signs[below(4)] + " " + expr(0);
    }

    private String cond() {
        StringBuilder b = new StringBuilder(lit());
        while (chance(25)) {
            b.append(chance(50) ? " and " : " or ").append(lit());
        }
        return b.toString();
    }

    private String text() {
        StringBuilder b = new StringBuilder();
        int[] pack = PACKS[below(PACKS.length)];
        b.append("pack " + pack[0] + " " + pack[1] + ";\n");
        if (chance(50)) {
            b.append("trump " + below(4) + ";");
        }
        int customs = below(7);
        for (int i = 0; i < customs; i++) {
            String[] kinds = {"lead", "follow", "discard"};
            b.append(" custom " + (char) ('a' + i) + (chance(30) ? "x" : "") + " " + below(3) + " " + kinds[below(3)]);
            b.append((chance(50) ? " when " + cond() : "") + " says " + cond() + ";");
        }
        return b.toString();
    }

    /** Now and then a text is spoilt. */
    private String spoilt(String text) {
        StringBuilder b = new StringBuilder(text);
        int times = chance(60) ? 0 : 1 + below(2);
        String[] bits = {";", "+", "(", ")", "==", "=", "!", "pack", "custom", "a", "custom a 0 lead says 1 == 1;", "7",
            "12345", "abcdefghi", "abcdefgh", "trump 4;", "pack 3 3;", "pack 0 0;", "pack 4 5;", " ", "\t", ".", "A",
            "not", "or", "when", "says", "count 4", "custom b 3 lead says 1 == 1;", "((((((1))))))", "(((((((1)))))))",
            "led", "pack 2 4;"};
        for (int i = 0; i < times && b.length() > 0; i++) {
            int at = below(b.length());
            if (chance(30)) {
                b.delete(at, Math.min(b.length(), at + 1 + below(6)));
            } else {
                b.insert(at, " " + bits[below(bits.length)] + " ");
            }
        }
        if (b.length() > 2000) {
            b.setLength(2000);
        }
        return b.toString();
    }

    private void readText(String text) {
        use(text.length() / 20 + 2);
        Check.tape(x, text);
        for (int at = 0; at < text.length(); at += 20) {
            y.feed(Check.word(text, at), Check.word(text, at + 4), Check.word(text, at + 8), Check.word(text, at + 12),
                    Check.word(text, at + 16));
        }
        y.back((20 - text.length() % 20) % 20);
        due("count(7)", x.count(7), y.count(7));
        due("read() of " + text, x.read(), y.read());
        due("place() of " + text, x.place(), y.place);
    }

    private void use(int calls) {
        used += calls;
        if (used >= CALLS) {
            throw new Over();
        }
    }

    private void due(String call, long got, long want) {
        Check.due(name + call, got, want);
        use(1);
    }

    private static int one(boolean b) {
        return b ? 1 : 0;
    }

    // ---- games

    private void run() {
        int texts = 1 + below(3);
        for (int t = 0; t < texts; t++) {
            readText(spoilt(text()));
            for (int w = -1; w < 18; w++) {
                if (w < 10 || chance(30)) {
                    due("count(" + w + ")", x.count(w), y.count(w));
                }
            }
            leads();
            int games = 1 + below(8);
            for (int g = 0; g < games; g++) {
                game();
            }
            gains();
        }
    }

    private void leads() {
        due("gap()", x.gap(), y.gap());
        for (int i = 0; i < 4; i++) {
            int a = below(8) - 1;
            int b = below(8) - 1;
            int w = below(3);
            due("openings(" + a + ", " + w + ")", x.openings(a, w), y.openings(a, w));
            due("quarrel(" + a + ", " + b + ")", x.quarrel(a, b), y.quarrel(a, b));
        }
    }

    private void gains() {
        int m = chance(10) ? below(3) * 20 - 20 : 1 + below(3);
        int seed = lots.nextInt();
        int bits = customs();
        due("gain(" + bits + ", " + seed + ", " + m + ")", x.gain(bits, seed, m), y.gain(bits, seed, m));
        if (y.customs.size() < 4 || chance(20)) {
            int w = below(3);
            m = Math.min(m, 2);
            due("bestSet(" + seed + ", " + m + ", " + w + ")", x.bestSet(seed, m, w), y.bestSet(seed, m, w));
        }
    }

    private void deal() {
        if (chance(50)) {
            int seed = chance(50) ? lots.nextInt() : below(100);
            due("deal(" + seed + ")", one(x.deal(seed)), one(y.deal(seed)));
            return;
        }
        Plain.State s = y.byLots(lots.nextInt());
        int a = s.dealt[0];
        int b = s.dealt[1];
        int c = s.dealt[2];
        if (chance(20)) {
            a ^= 1 << below(32);
        }
        if (chance(20)) {
            b ^= 3 << below(31);
        }
        due("hands(" + a + ", " + b + ", " + c + ")", one(x.hands(a, b, c)), one(y.hands(a, b, c)));
    }

    private void game() {
        deal();
        if (chance(50)) {
            int p = below(6) - 1;
            due("lead(" + p + ")", one(x.lead(p)), one(y.lead(p)));
        }
        int calls = 10 + below(60);
        for (int i = 0; i < calls; i++) {
            if (chance(55)) {
                move();
            } else {
                ask();
            }
            if (chance(20)) {
                state();
            }
        }
    }

    private void move() {
        int k = below(100);
        int card = below(y.cards() + 2) - 1;
        if (chance(80) && y.may() != 0) {
            int[] row = y.playable(y.may(), new java.util.ArrayList<>()).stream().mapToInt(Integer::intValue).toArray();
            card = row[below(row.length)];
        }
        if (k < 70) {
            due("play(" + card + ")", x.play(card), y.play(card));
        } else if (k < 80) {
            card = below(y.cards());
            due("revoke(" + card + ")", x.revoke(card), y.revoke(card));
        } else if (k < 88) {
            due("undo()", x.undo(), y.undo());
        } else if (k < 92) {
            int s = below(4) - 1;
            due("hold(" + s + ")", one(x.hold(s)), one(y.hold(s)));
        } else if (k < 95) {
            int s = below(4) - 1;
            due("restore(" + s + ")", one(x.restore(s)), one(y.restore(s)));
        } else if (k < 98) {
            due("book()", x.book(), y.book());
        } else {
            int p = below(6) - 1;
            due("lead(" + p + ")", one(x.lead(p)), one(y.lead(p)));
        }
    }

    private void state() {
        due("turn()", x.turn(), y.turnNow());
        due("may()", x.may(), y.may());
        due("count(5)", x.count(5), y.count(5));
        due("count(8)", x.count(8), y.count(8));
        int p = below(6) - 1;
        due("hand(" + p + ", true)", x.hand(p, true), y.hand(p, true));
        due("hand(" + p + ", false)", x.hand(p, false), y.hand(p, false));
        due("tricks(" + p + ")", x.tricks(p), y.tricks(p));
        due("winner(" + p + ")", x.winner(p), y.winner(p));
        due("revokes(" + p + ")", x.revokes(p), y.revokes(p));
        int i = below(18) - 1;
        for (int w = -1; w < 7; w++) {
            due("card(" + i + ", " + w + ")", x.card(i, w), y.card(i, w));
        }
    }

    private int customs() {
        return chance(95) ? below(1 << y.customs.size()) : chance(50) ? 1 << y.customs.size() : -1;
    }

    /** The plain one takes long where many deals can be and hands are long. */
    private boolean isSlow() {
        if (y.turnNow() < 0) {
            return false;
        }
        int left = Integer.bitCount(y.hand(y.turnNow(), false));
        return left == 3 && y.played() % 4 == 0 && !chance(4);
    }

    private void ask() {
        int b = customs();
        int player = chance(97) ? below(4) : below(6) - 1;
        int other = chance(97) ? below(4) : below(6) - 1;
        int card = chance(97) ? below(y.cards()) : below(y.cards() + 2) - 1;
        int i = below(y.played() + 1) + (chance(5) ? below(3) - 1 : 0);
        int what = chance(95) ? below(2) : below(4) - 1;
        String seen = "(" + player + ", " + b + ")";
        switch (below(16)) {
            case 0:
                due("says(" + i + ", " + b + ", " + what + ")", x.says(i, b, what), y.says(i, b, what));
                break;
            case 1:
                due("canBe" + seen, x.canBe(player, b), y.canBe(player, b));
                break;
            case 2:
                due("had(" + player + ", " + other + ", " + card + ", " + b + ")", x.had(player, other, card, b),
                        y.had(player, other, card, b));
                break;
            case 3:
                due("sure" + seen, x.sure(player, b), y.sure(player, b));
                break;
            case 4:
                due("after(" + player + ", " + i + ", " + b + ")", x.after(player, i, b), y.after(player, i, b));
                break;
            case 5:
                due("knows(" + player + ", " + other + ", " + card + ", " + b + ")", x.knows(player, other, card, b),
                        y.knows(player, other, card, b));
                break;
            case 6:
                if (y.played() >= y.cards() - 12 || chance(10)) {
                    due("open()", x.open(), y.open());
                }
                break;
            case 7:
                int n = below(y.cards() - y.played() + 2) - 1;
                if (y.played() >= y.cards() - 12 || chance(5)) {
                    due("line(" + n + ")", x.line(n), y.line(n));
                }
                break;
            case 8:
                int lie = chance(90) && y.may() != 0 ? Integer.numberOfTrailingZeros(y.may()) : card;
                due("lies(" + lie + ")", x.lies(lie), y.lies(lie));
                break;
            case 9:
                due("kept(" + i + ")", x.kept(i), y.kept(i));
                int c = below(8) - 1;
                int books = below(y.books.size() + 2) - 1;
                due("told(" + c + ", " + books + ", " + what + ")", x.told(c, books, what), y.told(c, books, what));
                break;
            default:
                if (!isSlow()) {
                    weigh(b, what);
                }
                break;
        }
    }

    private void weigh(int b, int what) {
        int card = chance(90) && y.may() != 0 ? Integer.numberOfTrailingZeros(y.may()) : below(y.cards() + 2) - 1;
        String on = "(" + b + ")";
        switch (below(7)) {
            case 0:
                due("mean(" + card + ", " + b + ")", x.mean(card, b), y.mean(card, b));
                break;
            case 1:
                due("choice" + on, x.choice(b), y.choice(b));
                break;
            case 2:
                int k = below(7) - 1;
                due("spread(" + card + ", " + b + ", " + k + ")", x.spread(card, b, k), y.spread(card, b, k));
                break;
            case 3:
                due("safe(" + b + ", " + what + ")", x.safe(b, what), y.safe(b, what));
                break;
            case 4:
                due("loss" + on, x.loss(b), y.loss(b));
                break;
            case 5:
                due("differs" + on, x.differs(b), y.differs(b));
                break;
            default:
                due("worth" + on, x.worth(b), y.worth(b));
                break;
        }
    }
}
