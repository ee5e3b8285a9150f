/** Promises 37 to 45: books, what they contradict, openings, quarrels, gaps, slots, counts. */
public final class BooksTest {
    private static final String TEXT = "pack 2 4; custom a 2 lead says held == 1; custom b 1 follow says rank == low;"
            + "custom c 0 discard when before < 0 says count 0 == 0; custom d 2 follow when before != 0 - 1 says high == 3;";

    public static void main(String[] args) {
        books();
        eightBooks();
        openings();
        quarrels();
        slots();
        counts();
        Check.end("BooksTest");
    }

    private static void play(SignalTable x, int... cards) {
        for (int card : cards) {
            Check.due("play(" + card + ")", x.play(card) > 0, true);
        }
    }

    /** In the first game d is a lie once; in the second a, b and d are, once each. */
    private static void books() {
        SignalTable x = Check.table(TEXT);
        Check.due("book() with nothing dealt", x.book(), -1);
        x.hands(17, 6, 96);
        play(x, 0, 1, 5, 3, 7, 4, 2);
        Check.due("book() ahead of the end", x.book(), -1);
        play(x, 6);
        Check.due("book()", x.book(), 0);
        Check.due("the game stays", x.count(5), 8);
        x.hands(3, 12, 192);
        play(x, 1, 3, 6, 4, 2, 7, 5, 0);
        Check.due("book()", x.book(), 1);
        Check.due("count(6)", x.count(6), 2);
        Check.due("kept(0)", x.kept(0), 15);
        Check.due("kept(1)", x.kept(1), 7);
        Check.due("kept(2)", x.kept(2), 4);
        Check.due("kept(3)", x.kept(3), -1);
        Check.due("kept(-1)", x.kept(-1), -1);
        int[][] applied = {{0, 2, 4}, {0, 2, 3}, {0, 1, 2}, {0, 1, 2}};
        int[][] lied = {{0, 0, 1}, {0, 0, 1}, {0, 0, 0}, {0, 1, 2}};
        for (int custom = 0; custom < 4; custom++) {
            for (int n = 0; n < 3; n++) {
                String call = "told(" + custom + ", " + n + ", ";
                Check.due(call + "0)", x.told(custom, n, 0), applied[custom][n]);
                Check.due(call + "1)", x.told(custom, n, 1), lied[custom][n]);
            }
        }
        Check.due("told(4, 0, 0)", x.told(4, 0, 0), -1);
        Check.due("told(-1, 0, 0)", x.told(-1, 0, 0), -1);
        Check.due("told(0, 3, 0)", x.told(0, 3, 0), -1);
        Check.due("told(0, -1, 0)", x.told(0, -1, 0), -1);
        Check.due("told(0, 0, 2)", x.told(0, 0, 2), -1);
        Check.due("told(0, 0, -1)", x.told(0, 0, -1), -1);
        x.deal(1);
        Check.due("books outlast a deal", x.count(6), 2);
    }

    private static void eightBooks() {
        SignalTable x = Check.table("pack 1 4; custom a 0 lead says rank == 0;");
        for (int i = 0; i < 8; i++) {
            x.hands(i % 2 == 0 ? 1 : 2, i % 2 == 0 ? 2 : 1, 4);
            play(x, i % 2, 1 - i % 2, 2, 3);
            Check.due("book()", x.book(), i);
        }
        Check.due("a ninth", x.book(), -1);
        Check.due("count(6)", x.count(6), 8);
        Check.due("kept(1)", x.kept(1), 1);
        Check.due("kept(8)", x.kept(8), 0);
        Check.due("told(0, 8, 0)", x.told(0, 8, 0), 8);
        Check.due("told(0, 8, 1)", x.told(0, 8, 1), 4);
        Check.due("told(0, 7, 1)", x.told(0, 7, 1), 3);
        Check.due("kept(9)", x.kept(9), -1);
    }

    private static void openings() {
        SignalTable x = Check.table(TEXT);
        Check.due("openings(0, 0)", x.openings(0, 0), 56);
        Check.due("openings(0, 1)", x.openings(0, 1), 32);
        Check.due("openings(1, 0): no lead", x.openings(1, 0), 0);
        Check.due("openings(2, 1): no lead", x.openings(2, 1), 0);
        Check.due("openings(4, 0)", x.openings(4, 0), -1);
        Check.due("openings(-1, 0)", x.openings(-1, 0), -1);
        Check.due("openings(0, 2)", x.openings(0, 2), -1);
        Check.due("openings(0, -1)", x.openings(0, -1), -1);
        Check.due("gap()", x.gap(), 0);
        Check.due("gap() without customs", Check.table("pack 1 4;").gap(), 4);
        Check.due("gap() of 16 without customs", new SignalTable().gap(), 7280);
        x = Check.table("custom a 1 lead when rank == 3 says held == 4; custom b 0 lead when rank < 2 says high < 2;"
                + "custom c 2 follow says 1 == 1;");
        Check.due("openings(0, 0)", x.openings(0, 0), 4 * 455);
        Check.due("openings(0, 1): the whole suit", x.openings(0, 1), 4);
        Check.due("openings(1, 0)", x.openings(1, 0), 8 * 455);
        Check.due("openings(1, 1): no 2 and 3 of it", x.openings(1, 1), 8 * 286);
        Check.due("gap(): rank 2", x.gap(), 4 * 455);
        x.deal(1);
        x.play(Integer.numberOfTrailingZeros(x.may()));
        Check.due("openings whatever is played", x.openings(0, 0), 4 * 455);
    }

    private static void quarrels() {
        SignalTable x = Check.table("pack 2 4; custom a 2 lead says held == 2; custom b 2 lead says held == 1;"
                + "custom c 2 lead when suit == 0 says held == 2; custom d 0 lead when suit == 1 says rank == 0;"
                + "custom e 2 discard says held == 1; custom f 2 lead says voids == 1;");
        Check.due("quarrel(0, 1): never both", x.quarrel(0, 1), 56);
        Check.due("quarrel(1, 0)", x.quarrel(1, 0), 56);
        Check.due("quarrel(0, 2): one and the same", x.quarrel(0, 2), 0);
        Check.due("quarrel(1, 2)", x.quarrel(1, 2), 28);
        Check.due("quarrel(2, 3): never both apply", x.quarrel(2, 3), 0);
        Check.due("quarrel(0, 5): held 2 is voids 1", x.quarrel(0, 5), 0);
        Check.due("quarrel(0, 3): 12 are true by a, 7 by d, 3 by both", x.quarrel(0, 3), 13);
        Check.due("quarrel(0, 4): no lead", x.quarrel(0, 4), 0);
        Check.due("quarrel(4, 0): no lead", x.quarrel(4, 0), 0);
        Check.due("quarrel(0, 0)", x.quarrel(0, 0), -1);
        Check.due("quarrel(4, 4)", x.quarrel(4, 4), -1);
        Check.due("quarrel(0, 6)", x.quarrel(0, 6), -1);
        Check.due("quarrel(-1, 0)", x.quarrel(-1, 0), -1);
    }

    private static void slots() {
        SignalTable x = Check.table("pack 2 4;");
        Check.due("hold() of nothing", x.hold(0), false);
        Check.due("restore() of nothing", x.restore(0), false);
        x.hands(17, 34, 136);
        x.lead(1);
        x.play(1);
        x.revoke(7);
        Check.due("hold(0)", x.hold(0), true);
        Check.due("hold(2)", x.hold(2), false);
        Check.due("hold(-1)", x.hold(-1), false);
        Check.due("count(8)", x.count(8), 1);
        Check.due("restore(1)", x.restore(1), false);
        x.play(2);
        x.play(0);
        Check.due("hold(1)", x.hold(1), true);
        Check.due("count(8)", x.count(8), 2);
        x.deal(5);
        Check.due("restore(2)", x.restore(2), false);
        Check.due("restore(-1)", x.restore(-1), false);
        Check.due("nothing happened", x.count(5), 0);
        for (int i = 0; i < 2; i++) {
            Check.due("restore(0)", x.restore(0), true);
            Check.due("count(5)", x.count(5), 2);
            Check.due("turn()", x.turn(), 3);
            Check.due("hand(0, true)", x.hand(0, true), 17);
            Check.due("hand(2, false)", x.hand(2, false), 8);
            Check.due("card(1, 4)", x.card(1, 4), 1);
            x.play(2);
        }
        Check.due("restore(1)", x.restore(1), true);
        Check.due("count(5)", x.count(5), 4);
        Check.due("winner(0)", x.winner(0), 3);
        Check.due("hold(0) over it", x.hold(0), true);
        x.undo();
        Check.due("restore(0)", x.restore(0), true);
        Check.due("count(5)", x.count(5), 4);
        for (int i = 3; i >= 0; i--) {
            Check.due("undo()", x.undo(), i);
        }
        Check.due("who led is held too", x.turn(), 1);
    }

    private static void counts() {
        SignalTable x = Check.table("pack 3 4; trump 2;" + TEXT.substring(9));
        int[] due = {3, 4, 3, 2, 4, -2, 0, 0, 0, -1, 20, 11, 2, 21, -1, -1, -1};
        for (int what = 0; what < due.length; what++) {
            Check.due("count(" + what + ")", x.count(what), due[what]);
        }
        Check.due("count(-1)", x.count(-1), -1);
        Check.due("count(MIN)", x.count(Integer.MIN_VALUE), -1);
        Check.due("count(MAX)", x.count(Integer.MAX_VALUE), -1);
        x.deal(1);
        Check.due("count(5)", x.count(5), 0);
        x.feed(1, 2, 3, 4, 5);
        Check.due("count(7)", x.count(7), 20);
    }
}
