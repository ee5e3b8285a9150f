/** The edges that the document names in part IV and in promises 37 to 45, sentence by sentence. */
public final class BookEdgesTest {
    private static final int LEAST = Integer.MIN_VALUE;
    private static final int MOST = Integer.MAX_VALUE;
    private static final String FOUR = "pack 1 4; custom a 0 lead says rank == 0; custom b 1 follow says rank < 3;"
            + "custom c 2 discard says 1 == 2; custom d 2 follow when rank == 2 says 1 == 1;";

    public static void main(String[] args) {
        booksRefused();
        eight();
        whatIsKept();
        told();
        booksStay();
        booksAnew();
        openingsOfPacks();
        firstLeads();
        openingsRefused();
        quarrels();
        gaps();
        holding();
        restoring();
        heldGames();
        counts();
        countsOfState();
        Check.end("BookEdgesTest");
    }

    private static int bits(int... cards) {
        int bits = 0;
        for (int card : cards) {
            bits |= 1 << card;
        }
        return bits;
    }

    private static void put(SignalTable x, int... cards) {
        for (int card : cards) {
            int n = x.count(5);
            Check.due("play(" + card + ")", x.play(card), n + 1);
        }
    }

    /** A game of four cards, each player's one by one. */
    private static void game(SignalTable x, int a, int b, int c, int d) {
        Check.due("hands", x.hands(1 << a, 1 << b, 1 << c), true);
        put(x, a, b, c, d);
    }

    // ---- promises 37 to 39

    private static void booksRefused() {
        Check.sentence("Promise 37", "NONE, and nothing happens: it is not over, 8 are kept.");
        SignalTable x = Check.table(FOUR);
        Check.due("nothing is dealt: book()", x.book(), -1);
        x.hands(1, 2, 4);
        for (int card = 0; card < 4; card++) {
            String before = Seen.of(x);
            Check.due(card + " played: book()", x.book(), -1);
            Check.due("what is seen", Seen.of(x), before);
            put(x, card);
        }
        Check.due("it is over: book()", x.book(), 0);
        x.undo();
        Check.due("taken back: book()", x.book(), -1);
        Check.due("count(6)", x.count(6), 1);
        put(x, 3);
        Check.due("over again: book()", x.book(), 1);
        x.deal(1);
        Check.due("a new deal: book()", x.book(), -1);
        x = new SignalTable();
        x.hands(0x000f, 0x00f0, 0x0f00);
        for (int i = 0; i < 16; i++) {
            Check.due(i + " of 16 played: book()", x.book(), -1);
            x.play(Integer.numberOfTrailingZeros(x.may()));
        }
        Check.due("16 of 16: book()", x.book(), 0);
    }

    private static void eight() {
        Check.sentence("IV", "BOOKS: games that are over, 8 at most, numbered from 0 on");
        SignalTable x = Check.table(FOUR);
        for (int i = 0; i < 8; i++) {
            game(x, i % 4, (i + 1) % 4, (i + 2) % 4, (i + 3) % 4);
            Check.due("count(6)", x.count(6), i);
            Check.due("book()", x.book(), i);
        }
        Check.due("count(6)", x.count(6), 8);
        Check.sentence("Promise 37", "NONE, and nothing happens: it is not over, 8 are kept.");
        String before = Seen.of(x);
        Check.due("a ninth: book()", x.book(), -1);
        Check.due("what is seen", Seen.of(x), before);
        game(x, 3, 2, 1, 0);
        Check.due("a ninth game: book()", x.book(), -1);
        Check.due("count(6)", x.count(6), 8);
        Check.due("told(0, 8, 0)", x.told(0, 8, 0), 8);
        Check.due("told(0, 8, 1)", x.told(0, 8, 1), 6);
    }

    private static void whatIsKept() {
        Check.sentence("IV", "KNOWN by n: the first n. A CUSTOM is KEPT if it was never a LIE in them");
        SignalTable x = Check.table(FOUR);
        Check.due("no book: kept(0)", x.kept(0), 15);
        game(x, 0, 1, 3, 2);
        x.book();
        game(x, 1, 0, 3, 2);
        x.book();
        game(x, 0, 3, 1, 2);
        x.book();
        int[] due = {15, 15, 14, 12};
        for (int n = 0; n <= 3; n++) {
            Check.due("kept(" + n + ")", x.kept(n), due[n]);
        }
        Check.sentence("Promise 38", "KEPT CUSTOMS (bits), as KNOWN by n; NONE: no such n.");
        for (int no : new int[] {-1, 4, 8, 9, LEAST, MOST}) {
            Check.due("kept(" + no + ")", x.kept(no), -1);
        }
        x = Check.table("pack 1 4;");
        Check.due("no customs: kept(0)", x.kept(0), 0);
        Check.due("no book: kept(1)", x.kept(1), -1);
    }

    private static void told() {
        Check.sentence("Promise 39", "to how many CARDS it APPLIED (what 0), how many times it was a LIE (1); NONE: no such ones.");
        SignalTable x = Check.table(FOUR);
        game(x, 1, 0, 3, 2);
        x.book();
        game(x, 0, 3, 1, 2);
        x.book();
        int[][] applied = {{0, 1, 2}, {0, 2, 4}, {0, 0, 0}, {0, 1, 2}};
        int[][] lied = {{0, 1, 1}, {0, 0, 1}, {0, 0, 0}, {0, 0, 0}};
        for (int custom = 0; custom < 4; custom++) {
            for (int n = 0; n <= 2; n++) {
                Check.due("told(" + custom + ", " + n + ", 0)", x.told(custom, n, 0), applied[custom][n]);
                Check.due("told(" + custom + ", " + n + ", 1)", x.told(custom, n, 1), lied[custom][n]);
            }
        }
        for (int no : new int[] {-1, 4, 6, LEAST, MOST}) {
            Check.due("told(" + no + ", 1, 0)", x.told(no, 1, 0), -1);
            Check.due("told(" + no + ", 0, 1)", x.told(no, 0, 1), -1);
        }
        for (int no : new int[] {-1, 3, 8, LEAST, MOST}) {
            Check.due("told(0, " + no + ", 0)", x.told(0, no, 0), -1);
        }
        for (int no : new int[] {-1, 2, LEAST, MOST}) {
            Check.due("told(0, 1, " + no + ")", x.told(0, 1, no), -1);
        }
        Check.due("no customs: told(0, 0, 0)", new SignalTable().told(0, 0, 0), -1);
    }

    private static void booksStay() {
        Check.sentence("IV", "(TRUE or not by all HANDS)");
        SignalTable x = Check.table("pack 2 4; custom a 2 discard says count 0 == 0; custom b 2 follow says held == 1;");
        x.hands(bits(0, 4), bits(1, 5), bits(3, 7));
        put(x, 0);
        x.revoke(5);
        put(x, 3, 2, 7, 6, 4, 1);
        Check.due("a revoke, and its card: says(1, 3, 1)", x.says(1, 3, 1), 1);
        Check.due("book()", x.book(), 0);
        Check.due("told(0, 1, 0)", x.told(0, 1, 0), 2);
        Check.due("told(0, 1, 1)", x.told(0, 1, 1), 2);
        Check.due("told(1, 1, 0)", x.told(1, 1, 0), 4);
        Check.due("told(1, 1, 1)", x.told(1, 1, 1), 0);
        Check.due("kept(1)", x.kept(1), 2);
        Check.sentence("Promise 37", "The GAME is kept as a BOOK");
        x.undo();
        x.undo();
        Check.due("whatever comes of the game: told(0, 1, 0)", x.told(0, 1, 0), 2);
        x.deal(2);
        Check.due("another deal: told(1, 1, 0)", x.told(1, 1, 0), 4);
        Check.due("count(6)", x.count(6), 1);
    }

    private static void booksAnew() {
        Check.sentence("Terms", "no BOOK is kept");
        SignalTable x = Check.table(FOUR);
        for (int text = 0; text < 3; text++) {
            for (int i = 0; i < 3; i++) {
                game(x, 1, 3, 0, 2);
                Check.due("text " + text + ": book()", x.book(), i);
            }
            Check.due("told(0, 3, 0)", x.told(0, 3, 0), 3);
            Check.due("told(0, 3, 1)", x.told(0, 3, 1), 3);
            Check.due("told(1, 3, 0)", x.told(1, 3, 0), 6);
            Check.due("told(1, 2, 1)", x.told(1, 2, 1), 2);
            Check.tape(x, FOUR);
            Check.due("read()", x.read(), 0);
            Check.due("count(6)", x.count(6), 0);
            Check.due("kept(1)", x.kept(1), -1);
        }
        game(x, 0, 1, 2, 3);
        Check.due("book()", x.book(), 0);
        Check.due("nothing of the old ones: told(0, 1, 1)", x.told(0, 1, 1), 0);
    }

    // ---- promises 40 to 42

    private static void openingsOfPacks() {
        Check.sentence("IV", "OPENINGS: all HANDS (sets of HAND cards) and a CARD of each");
        int[][] packs = {{1, 4, 4}, {2, 2, 4}, {4, 1, 4}, {1, 8, 56}, {2, 4, 56}, {4, 2, 56}, {3, 4, 660}, {1, 12, 660}, {4, 4, 7280},
            {1, 16, 7280}, {2, 8, 7280}};
        for (int[] pack : packs) {
            String text = "pack " + pack[0] + " " + pack[1] + ";";
            SignalTable x = Check.table(text + "custom a 0 lead says 1 == 1; custom b 1 lead says 1 == 2;"
                    + "custom c 2 lead when 1 == 2 says 1 == 1;");
            Check.due(text + " openings(0, 0)", x.openings(0, 0), pack[2]);
            Check.due(text + " openings(0, 1)", x.openings(0, 1), pack[2]);
            Check.due(text + " openings(1, 0)", x.openings(1, 0), pack[2]);
            Check.due(text + " openings(1, 1)", x.openings(1, 1), 0);
            Check.due(text + " openings(2, 0)", x.openings(2, 0), 0);
            Check.due(text + " openings(2, 1)", x.openings(2, 1), 0);
            Check.due(text + " quarrel(0, 1)", x.quarrel(0, 1), pack[2]);
            Check.due(text + " quarrel(0, 2)", x.quarrel(0, 2), 0);
            Check.due(text + " gap()", x.gap(), 0);
            Check.due(text + " without customs: gap()", Check.table(text).gap(), pack[2]);
        }
    }

    private static void firstLeads() {
        Check.sentence("IV", "as the first lead of a game, by a PLAYER of a CUSTOM's SIDE");
        for (int side = 0; side < 3; side++) {
            SignalTable x = Check.table("pack 2 4; trump 1; custom a " + side + " lead when led == 0 - 1 and trick == 0 and before == 0 - 1 "
                    + "says low <= rank and rank <= high;"
                    + "custom b " + side + " lead when suit == 1 says trumps == 2; custom c " + side + " lead says high - low == 3;");
            Check.due("openings(0, 0)", x.openings(0, 0), 56);
            Check.due("openings(0, 1)", x.openings(0, 1), 56);
            Check.due("openings(1, 0)", x.openings(1, 0), 28);
            Check.due("openings(1, 1)", x.openings(1, 1), 12);
            Check.due("openings(2, 1)", x.openings(2, 1), 4);
            x.deal(1);
            x.lead(1);
            x.play(Integer.numberOfTrailingZeros(x.may()));
            Check.due("whatever is played: openings(1, 0)", x.openings(1, 0), 28);
            Check.due("whatever is played: openings(1, 1)", x.openings(1, 1), 12);
        }
    }

    private static void openingsRefused() {
        Check.sentence("Promise 40", "0 if it is not of KIND 0; NONE: no such ones.");
        SignalTable x = Check.table("pack 2 4; custom a 2 follow says 1 == 1; custom b 2 discard says 1 == 1; custom c 2 lead says 1 == 1;");
        for (int custom = 0; custom < 2; custom++) {
            Check.due("openings(" + custom + ", 0)", x.openings(custom, 0), 0);
            Check.due("openings(" + custom + ", 1)", x.openings(custom, 1), 0);
            Check.due("openings(" + custom + ", 2)", x.openings(custom, 2), -1);
        }
        for (int no : new int[] {-1, 3, 6, LEAST, MOST}) {
            Check.due("openings(" + no + ", 0)", x.openings(no, 0), -1);
            Check.due("openings(" + no + ", 1)", x.openings(no, 1), -1);
        }
        for (int no : new int[] {-1, 2, 3, LEAST, MOST}) {
            Check.due("openings(2, " + no + ")", x.openings(2, no), -1);
        }
        Check.due("no customs: openings(0, 0)", new SignalTable().openings(0, 0), -1);
    }

    private static void quarrels() {
        Check.sentence("IV", "QUARREL of two: to how many both APPLY, and just one is TRUE");
        SignalTable x = Check.table("pack 2 4; custom a 2 lead says held == 2; custom b 2 lead when suit == 0 says held == 1;"
                + "custom c 2 lead when suit == 1 says 1 == 1; custom d 2 lead says 1 == 2; custom e 2 follow says held == 1;"
                + "custom f 2 discard says held == 1;");
        int[][] due = {{-1, 28, 16, 24, 0, 0}, {28, -1, 0, 16, 0, 0}, {16, 0, -1, 28, 0, 0}, {24, 16, 28, -1, 0, 0},
            {0, 0, 0, 0, -1, 0}, {0, 0, 0, 0, 0, -1}};
        for (int a = 0; a < 6; a++) {
            for (int b = 0; b < 6; b++) {
                if (a == b) {
                    Check.sentence("Promise 41", "NONE: no such ones, one and the same.");
                } else if (a > 3 || b > 3) {
                    Check.sentence("Promise 41", "0 if one is not of KIND 0");
                }
                Check.due("quarrel(" + a + ", " + b + ")", x.quarrel(a, b), due[a][b]);
            }
        }
        Check.sentence("Promise 41", "NONE: no such ones, one and the same.");
        for (int no : new int[] {-1, 6, 7, LEAST, MOST}) {
            Check.due("quarrel(" + no + ", 0)", x.quarrel(no, 0), -1);
            Check.due("quarrel(0, " + no + ")", x.quarrel(0, no), -1);
            Check.due("quarrel(4, " + no + ")", x.quarrel(4, no), -1);
            Check.due("quarrel(" + no + ", " + no + ")", x.quarrel(no, no), -1);
        }
        Check.due("no customs: quarrel(0, 1)", new SignalTable().quarrel(0, 1), -1);
    }

    private static void gaps() {
        Check.sentence("IV", "GAP: to how many no CUSTOM of KIND 0 (of any SIDE) APPLIES");
        gap("", 56);
        gap("custom a 2 follow says 1 == 1; custom b 0 discard says 1 == 1;", 56);
        gap("custom a 0 lead when suit == 0 says 1 == 2;", 28);
        gap("custom a 1 lead when suit == 0 says 1 == 2;", 28);
        gap("custom a 0 lead when suit == 0 says 1 == 1; custom b 1 lead when suit == 1 says 1 == 1;", 0);
        gap("custom a 0 lead when rank == 0 says 1 == 1; custom b 1 lead when suit == 1 says 1 == 1;", 21);
        gap("custom a 0 lead when held == 1 says 1 == 1;", 56);
        gap("custom a 0 lead when trick == 1 or before == 0 or led == 0 says 1 == 1;", 56);
        gap("custom a 2 lead says 1 == 2;", 0);
    }

    private static void gap(String customs, int due) {
        Check.due(customs + " gap()", Check.table("pack 2 4;" + customs).gap(), due);
    }

    // ---- promises 43, 44

    private static void holding() {
        Check.sentence("Promise 43", "The GAME is held in a SLOT (0, 1): true; false: no such one, nothing is dealt.");
        SignalTable x = Check.table("pack 2 4;");
        Check.due("nothing is dealt: hold(0)", x.hold(0), false);
        Check.due("nothing is dealt: hold(1)", x.hold(1), false);
        Check.due("count(8)", x.count(8), 0);
        x.hands(bits(0, 4), bits(1, 5), bits(3, 7));
        for (int no : new int[] {-1, 2, 3, LEAST, MOST}) {
            Check.due("hold(" + no + ")", x.hold(no), false);
        }
        Check.due("count(8)", x.count(8), 0);
        String before = Seen.game(x);
        Check.due("hold(1)", x.hold(1), true);
        Check.due("count(8)", x.count(8), 1);
        Check.due("hold(1) again", x.hold(1), true);
        Check.due("count(8)", x.count(8), 1);
        Check.due("hold(0)", x.hold(0), true);
        Check.due("count(8)", x.count(8), 2);
        Check.due("what is seen", Seen.game(x), before);
    }

    private static void restoring() {
        Check.sentence("Promise 44", "false, and nothing happens: no such one, nothing is held.");
        SignalTable x = Check.table("pack 2 4;");
        for (int no : new int[] {-1, 0, 1, 2, LEAST, MOST}) {
            Check.due("nothing is held: restore(" + no + ")", x.restore(no), false);
        }
        Check.due("nothing is dealt", x.count(5), -2);
        x.hands(bits(0, 4), bits(1, 5), bits(3, 7));
        put(x, 0);
        x.hold(1);
        put(x, 1);
        String before = Seen.of(x);
        for (int no : new int[] {-1, 0, 2, 3, LEAST, MOST}) {
            Check.due("restore(" + no + ")", x.restore(no), false);
        }
        Check.due("what is seen", Seen.of(x), before);
        Check.sentence("Promise 44", "It goes on from what a SLOT holds (that stays there): true");
        for (int i = 0; i < 3; i++) {
            Check.due("restore(1)", x.restore(1), true);
            Check.due("count(5)", x.count(5), 1);
            put(x, 1, 3);
            Check.due("count(8)", x.count(8), 1);
        }
        x.deal(5);
        Check.due("behind a deal: restore(1)", x.restore(1), true);
        Check.due("hand(3, true)", x.hand(3, true), bits(2, 6));
        Check.due("may()", x.may(), bits(1));
    }

    private static void heldGames() {
        Check.sentence("Promise 43", "The GAME is held in a SLOT (0, 1)");
        SignalTable x = Check.table("pack 2 4; custom a 2 discard says 1 == 2;");
        x.hands(bits(0, 4), bits(1, 5), bits(3, 7));
        x.lead(2);
        Check.due("ahead of the first card: hold(0)", x.hold(0), true);
        put(x, 7, 6, 4);
        x.revoke(1);
        put(x, 3);
        String midst = Seen.game(x);
        Check.due("in its midst: hold(1)", x.hold(1), true);
        x.deal(9);
        Check.due("restore(0)", x.restore(0), true);
        Check.due("who leads", x.turn(), 2);
        Check.due("none was played", x.count(5), 0);
        Check.due("lead(3)", x.lead(3), true);
        Check.due("restore(1)", x.restore(1), true);
        Check.due("what is seen", Seen.game(x), midst);
        Check.due("says(3, 1, 1)", x.says(3, 1, 1), 1);
        put(x, 2, 0, 5);
        Check.due("its end: hold(0)", x.hold(0), true);
        Check.due("book()", x.book(), 0);
        x.deal(1);
        Check.due("restore(0)", x.restore(0), true);
        Check.due("it is over: turn()", x.turn(), -2);
        Check.due("the revoke shows: card(3, 5)", x.card(3, 5), 7);
        Check.due("book()", x.book(), 1);
        for (int n = 7; n >= 0; n--) {
            Check.due("undo()", x.undo(), n);
        }
        Check.due("who led", x.turn(), 2);
    }

    // ---- promise 45

    private static void counts() {
        Check.sentence("Promise 45", "10 and a CUSTOM: 10 * its SIDE + its KIND. NONE for others.");
        SignalTable x = Check.table("pack 3 4; trump 2; custom a 2 discard says 1 == 1; custom b 0 lead says 1 == 1;");
        int[] due = {3, 4, 3, 2, 2, -2, 0, 0, 0, -1, 22, 0};
        for (int what = 0; what < due.length; what++) {
            Check.due("count(" + what + ")", x.count(what), due[what]);
        }
        for (int no : new int[] {-1, -2, 9, 12, 13, 15, 16, 20, 22, LEAST, LEAST + 9, LEAST + 10, MOST, -10}) {
            Check.due("count(" + no + ")", x.count(no), -1);
        }
        x = new SignalTable();
        for (int no = 9; no < 20; no++) {
            Check.due("no customs: count(" + no + ")", x.count(no), -1);
        }
    }

    private static void countsOfState() {
        Check.sentence("Promise 45", "3 TRUMP (-2: none), ..., 5 CARDS that were played (-2: nothing is dealt), 6 BOOKS, 7 bytes on the "
                + "tape, 8 SLOTS that hold something");
        SignalTable x = new SignalTable();
        Check.due("none: count(3)", x.count(3), -2);
        Check.due("nothing is dealt: count(5)", x.count(5), -2);
        x.feed(0x7061636b, 0x20342031, 0x3b747275, 0x6d702030, 0x3b202020);
        Check.due("count(7)", x.count(7), 20);
        Check.due("read()", x.read(), 0);
        Check.due("count(7)", x.count(7), 0);
        Check.due("a trump 0: count(3)", x.count(3), 0);
        Check.due("nothing is dealt: count(5)", x.count(5), -2);
        x.hands(1, 2, 4);
        for (int n = 0; n < 4; n++) {
            Check.due("count(5)", x.count(5), n);
            put(x, n);
        }
        Check.due("all is played: count(5)", x.count(5), 4);
        x.book();
        x.hold(0);
        Check.due("count(6)", x.count(6), 1);
        Check.due("count(8)", x.count(8), 1);
        x.hold(1);
        Check.due("count(8)", x.count(8), 2);
        x.undo();
        Check.due("count(5)", x.count(5), 3);
    }
}
