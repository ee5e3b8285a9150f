/** The edges that the document names in part II and in promises 6 to 17 and 24, sentence by sentence. */
public final class GameEdgesTest {
    private static final int LEAST = Integer.MIN_VALUE;
    private static final int MOST = Integer.MAX_VALUE;

    public static void main(String[] args) {
        lots();
        leaders();
        order();
        tricksOfOne();
        higherAndLower();
        whoWonLeads();
        following();
        showing();
        showingOnce();
        showingByALead();
        befores();
        dealing();
        handsGiven();
        handsRefused();
        leadRefused();
        handsSeen();
        turns();
        playing();
        playRefused();
        revoking();
        undoing();
        cardRefused();
        tricksAndWinners();
        revokesCounted();
        Check.end("GameEdgesTest");
    }

    private static void put(SignalTable x, int... cards) {
        for (int card : cards) {
            int n = x.count(5);
            Check.due("play(" + card + ")", x.play(card), n + 1);
        }
    }

    private static int bits(int... cards) {
        int bits = 0;
        for (int card : cards) {
            bits |= 1 << card;
        }
        return bits;
    }

    // ---- part IV: lots

    /** The document's LOT in numbers of 64 bits, none of which wraps. */
    private static int lot(int n, int seed, int which) {
        long size = 1L << 32;
        long h = seed < 0 ? seed + size : seed;
        for (int it : new int[] {20, which}) {
            long product = 0;
            long left = (h ^ it) % size;
            for (long factor = 1103515245L; factor > 0; factor /= 2) {
                product = factor % 2 == 1 ? (product + left) % size : product;
                left = left * 2 % size;
            }
            h = (product + 12345) % size;
            h = h ^ h / 32768;
        }
        return (int) (h / 2 % n);
    }

    private static void lots() {
        Check.sentence("IV", "for i from the last place down to 1 those at places i and LOT (i + 1) of which i are exchanged; "
                + "PLAYER 0 has the first HAND of them, and so on ... (32 bits that wrap)");
        int[][] packs = {{1, 4}, {4, 1}, {2, 4}, {1, 8}, {3, 4}, {4, 4}, {1, 16}};
        int[] seeds = {0, 1, -1, 2, 20, 12345, LEAST, MOST, LEAST + 1, MOST - 1, 1 << 30, -(1 << 30), 0x55555555, 0xaaaaaaaa};
        for (int[] pack : packs) {
            for (int seed : seeds) {
                SignalTable x = Check.table("pack " + pack[0] + " " + pack[1] + ";");
                Check.due("deal(" + seed + ")", x.deal(seed), true);
                int cards = pack[0] * pack[1];
                int[] row = new int[cards];
                for (int i = 0; i < cards; i++) {
                    row[i] = i;
                }
                for (int i = cards - 1; i >= 1; i--) {
                    int other = lot(i + 1, seed, i);
                    int card = row[i];
                    row[i] = row[other];
                    row[other] = card;
                }
                for (int p = 0; p < 4; p++) {
                    int hand = 0;
                    for (int i = p * cards / 4; i < (p + 1) * cards / 4; i++) {
                        hand |= 1 << row[i];
                    }
                    Check.due("deal(" + seed + ") of " + cards + ": hand(" + p + ", true)", x.hand(p, true), hand);
                }
            }
        }
    }

    // ---- part II

    private static void leaders() {
        Check.sentence("II", "PLAYER 0 leads (if nothing else is told ahead of the first CARD)");
        SignalTable x = Check.table("pack 4 1;");
        x.hands(1, 2, 4);
        Check.due("nothing told: turn()", x.turn(), 0);
        for (int player = 3; player >= 0; player--) {
            Check.due("lead(" + player + ")", x.lead(player), true);
            Check.due("turn()", x.turn(), player);
        }
        Check.due("of several the last: lead(3)", x.lead(3), true);
        Check.due("lead(1)", x.lead(1), true);
        put(x, 1);
        Check.due("who led", x.card(0, 1), 1);
        x.hands(1, 2, 4);
        Check.due("a new game by hands()", x.turn(), 0);
        x.lead(2);
        x.deal(1);
        Check.due("a new game by deal()", x.turn(), 0);
    }

    private static void order() {
        Check.sentence("II", "one by one by numbers (0 behind 3) they play");
        for (int leader = 0; leader < 4; leader++) {
            SignalTable x = Check.table("pack 4 1;");
            x.hands(1, 2, 4);
            x.lead(leader);
            for (int i = 0; i < 4; i++) {
                int player = (leader + i) % 4;
                Check.due("turn()", x.turn(), player);
                put(x, player);
                Check.due("card(" + i + ", 1)", x.card(i, 1), player);
            }
        }
    }

    /** Every trick that there can be with a card each, and every leader of it. */
    private static void tricksOfOne() {
        Check.sentence("II", "the highest TRUMP of it wins, without one the highest of the SUIT that was led");
        int[][] packs = {{4, 1}, {2, 2}, {1, 4}};
        for (int[] pack : packs) {
            for (int trump = -1; trump < 4; trump++) {
                String told = trump < 0 ? "" : "trump " + trump + ";";
                for (int deal = 0; deal < 24; deal++) {
                    trickOfOne("pack " + pack[0] + " " + pack[1] + ";" + told, pack[1], trump, deal);
                }
            }
        }
    }

    private static void trickOfOne(String text, int ranks, int trump, int deal) {
        int[] cards = {0, 1, 2, 3};
        int[] picks = {deal % 4, deal / 4 % 3, deal / 12};
        for (int i = 0; i < 3; i++) {
            int other = i + picks[i];
            int card = cards[i];
            cards[i] = cards[other];
            cards[other] = card;
        }
        SignalTable x = Check.table(text);
        for (int leader = 0; leader < 4; leader++) {
            x.hands(1 << cards[0], 1 << cards[1], 1 << cards[2]);
            x.lead(leader);
            int led = cards[leader] / ranks;
            int winner = -1;
            int most = -1;
            for (int i = 0; i < 4; i++) {
                int player = (leader + i) % 4;
                int suit = cards[player] / ranks;
                int height = (suit == trump ? 200 : suit == led ? 100 : 0) + cards[player] % ranks;
                if (height > most) {
                    most = height;
                    winner = player;
                }
                put(x, cards[player]);
                Check.due("card(" + i + ", 2)", x.card(i, 2), i == 0 ? 0 : suit == led ? 1 : 2);
            }
            Check.due(text + " winner(0)", x.winner(0), winner);
            Check.due(text + " tricks(0)", x.tricks(0), winner % 2 == 0 ? 1 : 0);
        }
    }

    private static void higherAndLower() {
        Check.sentence("II", "the highest TRUMP of it wins");
        SignalTable x = Check.table("pack 2 8; trump 1;");
        x.hands(bits(0, 1, 2, 7), bits(8, 15, 3, 4), bits(9, 14, 5, 6));
        x.play(0);
        x.revoke(15);
        x.revoke(9);
        x.revoke(10);
        Check.due("the first trump is the highest", x.winner(0), 1);
        x.hands(bits(0, 1, 2, 7), bits(8, 15, 3, 4), bits(9, 14, 5, 6));
        x.play(7);
        x.revoke(8);
        x.revoke(9);
        put(x, 10);
        Check.due("the last trump is the highest", x.winner(0), 3);
        Check.sentence("II", "without one the highest of the SUIT that was led");
        x = Check.table("pack 2 8;");
        x.hands(bits(0, 1, 2, 7), bits(8, 15, 3, 4), bits(9, 14, 5, 6));
        x.play(0);
        x.revoke(15);
        x.revoke(14);
        put(x, 13);
        Check.due("the only one of it", x.winner(0), 0);
    }

    private static void whoWonLeads() {
        Check.sentence("II", "four CARDS are a TRICK ... who won it leads");
        for (int best = 0; best < 4; best++) {
            int[] cards = {0, 1, 2, 3};
            cards[best] = 7;
            SignalTable x = Check.table("pack 1 8;");
            int[] hands = {bits(0, 4), bits(1, 5), bits(2, 6), bits(3, 7)};
            int own = best == 3 ? hands[3] : hands[best] & ~(1 << best) | 1 << 7;
            hands[3] = best == 3 ? own : bits(3, best);
            hands[best] = own;
            x.hands(hands[0], hands[1], hands[2]);
            put(x, cards[0], cards[1], cards[2]);
            Check.due("three are none: winner(0)", x.winner(0), -1);
            put(x, cards[3]);
            Check.due("winner(0)", x.winner(0), best);
            Check.due("turn()", x.turn(), best);
        }
    }

    private static void following() {
        Check.sentence("II", "FOLLOW: of the led SUIT; DISCARD: any other CARD that is not led.");
        SignalTable x = Check.table("pack 2 4; trump 1;");
        x.hands(bits(0, 1), bits(2, 4), bits(5, 6));
        put(x, 0, 2, 5, 3);
        Check.due("a lead", x.card(0, 2), 0);
        Check.due("a follow", x.card(1, 2), 1);
        Check.due("a trump on another suit", x.card(2, 2), 2);
        put(x, 6);
        Check.due("a lead of trumps", x.card(4, 2), 0);
        put(x, 7, 1, 4);
        Check.due("a trump on trumps", x.card(5, 2), 1);
        Check.due("no trump on trumps", x.card(6, 2), 2);
        Check.sentence("II", "One MUST follow if he has a CARD of that SUIT");
        x.hands(bits(0, 1), bits(2, 4), bits(5, 6));
        Check.due("a lead is free", x.may(), bits(0, 1));
        put(x, 0);
        Check.due("has one of it", x.may(), bits(2));
        Check.due("play(4)", x.play(4), -2);
        put(x, 2);
        Check.due("has none of it", x.may(), bits(5, 6));
        put(x, 6);
        Check.due("3 must too", x.may(), bits(3));
    }

    private static void showing() {
        Check.sentence("II", "one who does not then REVOKES; it SHOWS with the first CARD of that SUIT that he plays later");
        SignalTable x = Check.table("pack 2 8;");
        x.hands(bits(0, 1, 2, 3), bits(4, 5, 8, 9), bits(6, 7, 10, 11));
        put(x, 3);
        Check.due("revoke(8)", x.revoke(8), 2);
        put(x, 7, 12);
        Check.due("a discard without one of the suit is none", x.card(3, 4), 0);
        put(x, 10, 13, 0);
        shows(x, 1, 1, -2);
        Check.due("revoke(4)", x.revoke(4), 8);
        shows(x, 1, 1, 7);
        shows(x, 7, 1, -2);
        put(x, 14, 1, 9);
        shows(x, 7, 1, 10);
        Check.due("revoke(6)", x.revoke(6), 12);
        shows(x, 11, 1, -2);
        put(x, 15, 2, 5, 11);
        shows(x, 1, 1, 7);
        shows(x, 7, 1, 10);
        shows(x, 11, 1, 15);
        shows(x, 2, 0, -2);
        shows(x, 6, 0, -2);
        Check.due("revokes(0)", x.revokes(0), 3);
        Check.due("revokes(1)", x.revokes(1), 3);
        Check.due("revokes(2)", x.revokes(2), 1);
    }

    private static void shows(SignalTable x, int i, int broken, int at) {
        Check.due("card(" + i + ", 4)", x.card(i, 4), broken);
        Check.due("card(" + i + ", 5)", x.card(i, 5), at);
    }

    private static void showingOnce() {
        Check.sentence("II", "it SHOWS with the first CARD of that SUIT that he plays later");
        SignalTable x = Check.table("pack 2 8;");
        x.hands(bits(0, 1, 2, 3), bits(4, 8, 9, 10), bits(5, 6, 7, 11));
        put(x, 0);
        x.revoke(8);
        put(x, 7, 12, 6, 13, 1);
        x.revoke(9);
        shows(x, 1, 1, -2);
        shows(x, 7, 1, -2);
        put(x, 5, 14, 2, 4);
        shows(x, 1, 1, 11);
        shows(x, 7, 1, 11);
        Check.due("both with one card: revokes(1)", x.revokes(1), 2);
        Check.due("revokes(2)", x.revokes(2), 2);
        x.hands(bits(0, 1, 2, 10), bits(3, 4, 8, 9), bits(5, 6, 7, 11));
        put(x, 0);
        x.revoke(8);
        put(x, 7, 12, 6, 13, 1, 3);
        shows(x, 1, 1, 7);
        put(x, 5, 14, 2, 4);
        shows(x, 1, 1, 7);
    }

    private static void showingByALead() {
        Check.sentence("II", "it SHOWS with the first CARD of that SUIT that he plays later");
        SignalTable x = Check.table("pack 2 4; trump 1;");
        x.hands(bits(0, 1), bits(2, 7), bits(3, 4));
        put(x, 0);
        x.revoke(7);
        put(x, 3, 5);
        shows(x, 1, 1, -2);
        put(x, 2);
        shows(x, 1, 1, 4);
        Check.due("revokes(2)", x.revokes(2), 1);
        x.hands(bits(0, 1), bits(4, 5), bits(2, 6));
        put(x, 0, 4, 2);
        Check.due("the last one of a trick: revoke(7)", x.revoke(7), 4);
        put(x, 3);
        shows(x, 3, 1, 4);
    }

    private static void befores() {
        Check.sentence("II", "before (the RANK of the CARD of that SUIT that he played last; -1 none)");
        SignalTable x = Check.table("pack 1 16;");
        x.hands(bits(0, 4, 8, 12), bits(1, 5, 9, 13), bits(2, 6, 10, 14));
        put(x, 4, 5, 6, 7, 3, 0, 13, 2, 1, 10, 11, 8, 15, 12, 9, 14);
        int[] due = {-1, -1, -1, -1, 7, 4, 5, 6, 13, 2, 3, 0, 11, 8, 1, 10};
        for (int i = 0; i < 16; i++) {
            Check.due("card(" + i + ", 3)", x.card(i, 3), due[i]);
        }
        x = Check.table("pack 2 4;");
        x.hands(bits(0, 4), bits(1, 2), bits(5, 6));
        put(x, 0, 1, 5, 3, 7, 4, 2, 6);
        int[] ofSuits = {-1, -1, -1, -1, -1, -1, 1, 1};
        for (int i = 0; i < 8; i++) {
            Check.due("card(" + i + ", 3)", x.card(i, 3), ofSuits[i]);
        }
    }

    // ---- promises 6 to 9

    private static void dealing() {
        Check.sentence("Promise 6", "A new GAME is dealt by LOTS: true.");
        SignalTable x = Check.table("pack 2 4;");
        Check.due("deal(0)", x.deal(0), true);
        put(x, Integer.numberOfTrailingZeros(x.may()));
        put(x, Integer.numberOfTrailingZeros(x.may()));
        Check.due("deal(0) again", x.deal(0), true);
        Check.due("nothing is played", x.count(5), 0);
        SignalTable y = Check.table("pack 2 4;");
        y.deal(0);
        Check.due("what is seen", Seen.of(x), Seen.of(y));
        for (int i = 0; i < 4; i++) {
            Check.due("whole hands", x.hand(i, false), x.hand(i, true));
        }
    }

    private static void handsGiven() {
        Check.sentence("Promise 7", "A new GAME is dealt: HANDS of PLAYERS 0, 1, 2 (bits of CARDS), all others to 3: true");
        SignalTable x = new SignalTable();
        Check.due("hands of 16", x.hands(0xf000, 0x0f00, 0x00f0), true);
        Check.due("hand(3, true)", x.hand(3, true), 0x000f);
        Check.due("hand(0, true)", x.hand(0, true), 0xf000);
        x.lead(1);
        x.play(8);
        Check.due("in the midst of a game", x.hands(0x000f, 0x0f00, 0x00f0), true);
        Check.due("count(5)", x.count(5), 0);
        Check.due("turn()", x.turn(), 0);
        Check.due("hand(3, false)", x.hand(3, false), 0xf000);
        x = Check.table("pack 4 1;");
        Check.due("hands of 4", x.hands(8, 4, 1), true);
        Check.due("hand(3, false)", x.hand(3, false), 2);
    }

    private static void handsRefused() {
        Check.sentence("Promise 7", "false, and nothing happens: not HAND cards each, no such CARD, one twice.");
        SignalTable x = Check.table("pack 2 4;");
        refused(x, 1, 12, 48);
        Check.due("nothing is dealt", x.count(5), -2);
        x.hands(bits(0, 1), bits(2, 3), bits(4, 5));
        x.lead(2);
        x.play(4);
        String before = Seen.of(x);
        for (int few : new int[] {0, 1, 7, 255}) {
            refused(x, few, 12, 48);
            refused(x, few == 1 ? 4 : few, 3, 48);
            refused(x, 3, few == 1 ? 8 : few == 7 ? 76 : few, 48);
            refused(x, 3, 12, few == 1 ? 16 : few == 7 ? 112 : few);
        }
        for (int bit = 8; bit < 32; bit++) {
            refused(x, 1 | 1 << bit, 12, 48);
            refused(x, 3, 4 | 1 << bit, 48);
            refused(x, 3, 12, 16 | 1 << bit);
        }
        refused(x, 3, 3, 48);
        refused(x, 3, 48, 3);
        refused(x, 48, 3, 3);
        refused(x, 3, 6, 48);
        refused(x, 3, 48, 6);
        refused(x, 48, 3, 6);
        refused(x, -1, -1, -1);
        Check.due("what is seen", Seen.of(x), before);
        Check.due("hands that are well", x.hands(3, 12, 48), true);
        x = new SignalTable();
        for (int bit = 16; bit < 32; bit++) {
            refused(x, 7 | 1 << bit, 0xf0, 0xf00);
        }
        Check.due("nothing is dealt", x.count(5), -2);
    }

    private static void refused(SignalTable x, int a, int b, int c) {
        Check.due("hands(" + a + ", " + b + ", " + c + ")", x.hands(a, b, c), false);
    }

    private static void leadRefused() {
        Check.sentence("Promise 8", "false, and nothing happens: nothing is dealt, a CARD was played, no such one.");
        SignalTable x = Check.table("pack 1 4;");
        Check.due("nothing is dealt: lead(0)", x.lead(0), false);
        Check.due("lead(3)", x.lead(3), false);
        x.hands(1, 2, 4);
        Check.due("it was not told then", x.turn(), 0);
        x.lead(2);
        for (int none : new int[] {-1, 4, LEAST, MOST, -4}) {
            Check.due("lead(" + none + ")", x.lead(none), false);
        }
        Check.due("turn()", x.turn(), 2);
        put(x, 2);
        String before = Seen.of(x);
        for (int player = 0; player < 4; player++) {
            Check.due("a card was played: lead(" + player + ")", x.lead(player), false);
        }
        Check.due("what is seen", Seen.of(x), before);
        put(x, 3, 0, 1);
        Check.due("all is played: lead(0)", x.lead(0), false);
        Check.due("turn()", x.turn(), -2);
    }

    private static void handsSeen() {
        Check.sentence("Promise 9", "The CARDS (bits) in a PLAYER's hand now (all: that were dealt to him)");
        SignalTable x = Check.table("pack 2 4;");
        x.hands(3, 12, 48);
        Check.due("hand(0, false)", x.hand(0, false), 3);
        put(x, 1);
        Check.due("hand(0, false)", x.hand(0, false), 1);
        Check.due("hand(0, true)", x.hand(0, true), 3);
        put(x, 3, 4, 6, 2, 5, 7, 0);
        for (int p = 0; p < 4; p++) {
            Check.due("all is played: hand(" + p + ", false)", x.hand(p, false), 0);
            Check.due("hand(" + p + ", true)", x.hand(p, true), 3 << 2 * p);
        }
        Check.sentence("Promise 9", "NONE: no such one, nothing is dealt.");
        for (int none : new int[] {-1, 4, LEAST, MOST}) {
            Check.due("hand(" + none + ", true)", x.hand(none, true), -1);
            Check.due("hand(" + none + ", false)", x.hand(none, false), -1);
        }
        for (int p = 0; p < 4; p++) {
            Check.due("nothing is dealt: hand(" + p + ", true)", new SignalTable().hand(p, true), -1);
            Check.due("nothing is dealt: hand(" + p + ", false)", new SignalTable().hand(p, false), -1);
        }
    }

    // ---- promises 10 to 14

    private static void turns() {
        Check.sentence("Promise 10", "-2: nothing is dealt, all is played.");
        SignalTable x = Check.table("pack 1 4;");
        Check.due("nothing is dealt: turn()", x.turn(), -2);
        x.hands(1, 2, 4);
        put(x, 0, 1, 2);
        Check.due("the last one", x.turn(), 3);
        put(x, 3);
        Check.due("all is played: turn()", x.turn(), -2);
        Check.sentence("Promise 11", "CARDS (bits) that he may play (following if he MUST); 0 likewise.");
        Check.due("all is played: may()", x.may(), 0);
        Check.due("nothing is dealt: may()", new SignalTable().may(), 0);
        x.undo();
        Check.due("turn() again", x.turn(), 3);
        Check.due("may() again", x.may(), 8);
    }

    private static void playing() {
        Check.sentence("Promise 12", "He plays a CARD: how many were played.");
        SignalTable x = Check.table("pack 1 16;");
        x.hands(0x000f, 0x00f0, 0x0f00);
        int[] cards = {0, 4, 8, 12, 13, 1, 5, 9, 14, 2, 6, 10, 15, 3, 7, 11};
        for (int i = 0; i < 16; i++) {
            Check.due("play(" + cards[i] + ")", x.play(cards[i]), i + 1);
            Check.due("it is gone", x.hand(x.card(i, 1), false) >> cards[i] & 1, 0);
        }
    }

    private static void playRefused() {
        Check.sentence("Promise 12", "NONE, and nothing happens: nobody is to play, not in his hand");
        SignalTable x = Check.table("pack 2 4;");
        for (int card = -1; card < 9; card++) {
            Check.due("nothing is dealt: play(" + card + ")", x.play(card), -1);
        }
        Check.due("count(5)", x.count(5), -2);
        x.hands(bits(0, 4), bits(1, 5), bits(3, 7));
        String before = Seen.of(x);
        for (int card : new int[] {1, 2, 3, 5, 6, 7, 8, -1, 32, 36, 64, LEAST, MOST, -32, -28}) {
            Check.due("play(" + card + ")", x.play(card), -1);
        }
        Check.due("what is seen", Seen.of(x), before);
        put(x, 0);
        before = Seen.of(x);
        for (int card : new int[] {0, 2, 3, 4, 6, 7, 8, -1, 33, 37}) {
            Check.due("play(" + card + ") where he must follow", x.play(card), -1);
        }
        Check.due("what is seen", Seen.of(x), before);
        Check.sentence("Promise 12", "-2, and nothing happens: he MUST follow.");
        Check.due("play(5)", x.play(5), -2);
        Check.due("what is seen", Seen.of(x), before);
        put(x, 1, 3, 2, 7, 6, 4, 5);
        before = Seen.of(x);
        for (int card = -1; card < 9; card++) {
            Check.due("all is played: play(" + card + ")", x.play(card), -1);
        }
        Check.due("what is seen", Seen.of(x), before);
    }

    private static void revoking() {
        Check.sentence("Promise 13", "He plays it, whether he MUST follow or not; NONE likewise.");
        SignalTable x = Check.table("pack 2 4;");
        for (int card = -1; card < 9; card++) {
            Check.due("nothing is dealt: revoke(" + card + ")", x.revoke(card), -1);
        }
        x.hands(bits(0, 4), bits(1, 5), bits(3, 7));
        String before = Seen.of(x);
        for (int card : new int[] {1, 2, 3, 5, 6, 7, 8, -1, 32, 36, 64, LEAST, MOST}) {
            Check.due("revoke(" + card + ")", x.revoke(card), -1);
        }
        Check.due("what is seen", Seen.of(x), before);
        Check.due("a lead: revoke(4)", x.revoke(4), 1);
        shows(x, 0, 0, -2);
        Check.due("a follow: revoke(5)", x.revoke(5), 2);
        shows(x, 1, 0, -2);
        Check.due("he must follow: revoke(3)", x.revoke(3), 3);
        shows(x, 2, 1, -2);
        Check.due("its kind", x.card(2, 2), 2);
        Check.due("revoke(6)", x.revoke(6), 4);
        Check.due("revoke(2)", x.revoke(2), 5);
        Check.due("one card left: revoke(0)", x.revoke(0), 6);
        shows(x, 5, 0, -2);
        Check.due("revoke(1)", x.revoke(1), 7);
        Check.due("revoke(7), which shows it", x.revoke(7), 8);
        shows(x, 2, 1, 7);
        for (int card = -1; card < 9; card++) {
            Check.due("all is played: revoke(" + card + ")", x.revoke(card), -1);
        }
    }

    private static void undoing() {
        Check.sentence("Promise 14", "The last CARD is taken back: how many were played; NONE: none was.");
        Check.due("nothing is dealt: undo()", new SignalTable().undo(), -1);
        int[] cards = {2, 0, 5, 3, 7, 6, 4, 1};
        for (int n = 0; n <= 8; n++) {
            SignalTable x = Check.table("pack 2 4;");
            x.hands(bits(0, 4), bits(1, 5), bits(3, 7));
            x.lead(3);
            for (int i = 0; i < n; i++) {
                Check.due("revoke(" + cards[i] + ")", x.revoke(cards[i]), i + 1);
            }
            String before = Seen.game(x);
            if (n < 8) {
                x.revoke(cards[n]);
                Check.due("undo()", x.undo(), n);
                Check.due("as it was ahead of card " + n, Seen.game(x), before);
            }
            for (int i = n - 1; i >= 0; i--) {
                Check.due("undo()", x.undo(), i);
            }
            Check.due("none was played: undo()", x.undo(), -1);
            Check.due("who leads", x.turn(), 3);
            Check.due("whole hands", x.hand(0, false) == 17 && x.hand(3, false) == x.hand(3, true), true);
        }
    }

    // ---- promises 15 to 17, 24

    private static void cardRefused() {
        Check.sentence("Promise 15", "5 the CARD's place (from 0 on) with which that SHOWS (-2: not, not yet). NONE: no such ones.");
        SignalTable x = Check.table("pack 1 4;");
        for (int what = -1; what < 7; what++) {
            Check.due("nothing is dealt: card(0, " + what + ")", x.card(0, what), -1);
        }
        x.hands(1, 2, 4);
        Check.due("none was played: card(0, 0)", x.card(0, 0), -1);
        put(x, 0, 1);
        int[] due = {1, 1, 1, -1, 0, -2};
        for (int what = 0; what < 6; what++) {
            Check.due("card(1, " + what + ")", x.card(1, what), due[what]);
            for (int none : new int[] {-1, 2, 3, 4, LEAST, MOST}) {
                Check.due("card(" + none + ", " + what + ")", x.card(none, what), -1);
            }
        }
        for (int none : new int[] {-1, 6, 7, LEAST, MOST}) {
            Check.due("card(0, " + none + ")", x.card(0, none), -1);
        }
        x.undo();
        Check.due("taken back: card(1, 0)", x.card(1, 0), -1);
        x.hands(1, 2, 4);
        Check.due("a new game: card(0, 0)", x.card(0, 0), -1);
        x = Check.table("pack 2 4;");
        x.hands(bits(0, 4), bits(1, 5), bits(3, 7));
        put(x, 4);
        x.revoke(1);
        put(x, 7, 6);
        Check.due("not yet", x.card(1, 5), -2);
        put(x, 3, 2, 0, 5);
        Check.due("now", x.card(1, 5), 7);
        x.undo();
        Check.due("not yet again", x.card(1, 5), -2);
    }

    private static void tricksAndWinners() {
        Check.sentence("Promise 16", "TRICKS that a SIDE won; NONE: no such one.");
        SignalTable x = Check.table("pack 2 4;");
        Check.due("nothing is dealt: tricks(0)", x.tricks(0), 0);
        Check.due("nothing is dealt: tricks(1)", x.tricks(1), 0);
        x.hands(bits(0, 7), bits(1, 2), bits(3, 4));
        put(x, 0, 1, 3);
        Check.due("three cards: tricks(0)", x.tricks(0), 0);
        Check.sentence("Promise 17", "Who won the i-th TRICK; NONE: it is not played.");
        Check.due("three cards: winner(0)", x.winner(0), -1);
        put(x, 5);
        Check.due("winner(0)", x.winner(0), 2);
        Check.due("winner(1)", x.winner(1), -1);
        put(x, 4, 6, 7);
        Check.due("winner(1)", x.winner(1), -1);
        put(x, 2);
        Check.due("winner(1)", x.winner(1), 0);
        for (int none : new int[] {-1, 2, 3, 4, LEAST, MOST}) {
            Check.due("winner(" + none + ")", x.winner(none), -1);
        }
        Check.sentence("Promise 16", "TRICKS that a SIDE won; NONE: no such one.");
        Check.due("tricks(0)", x.tricks(0), 2);
        Check.due("tricks(1)", x.tricks(1), 0);
        for (int none : new int[] {-1, 2, 3, LEAST, MOST}) {
            Check.due("tricks(" + none + ")", x.tricks(none), -1);
            Check.due("nothing is dealt: tricks(" + none + ")", new SignalTable().tricks(none), -1);
        }
        Check.due("nothing is dealt: winner(0)", new SignalTable().winner(0), -1);
        x.deal(1);
        Check.due("a new game: tricks(0)", x.tricks(0), 0);
        Check.due("a new game: winner(0)", x.winner(0), -1);
    }

    private static void revokesCounted() {
        Check.sentence("Promise 24", "2 the first TRICK in which one SHOWS (-2: none). NONE for others.");
        SignalTable x = Check.table("pack 2 4;");
        revokes(x, 0, 0, -2);
        x.hands(bits(0, 4), bits(1, 5), bits(3, 7));
        revokes(x, 0, 0, -2);
        put(x, 4);
        x.revoke(1);
        x.revoke(3);
        revokes(x, 2, 0, -2);
        put(x, 6);
        put(x, 2, 0);
        revokes(x, 2, 0, -2);
        put(x, 5);
        revokes(x, 2, 1, 1);
        put(x, 7);
        revokes(x, 2, 2, 1);
        for (int none : new int[] {-1, 3, 4, LEAST, MOST}) {
            Check.due("revokes(" + none + ")", x.revokes(none), -1);
        }
        x.deal(1);
        revokes(x, 0, 0, -2);
        x = Check.table("pack 2 8;");
        x.hands(bits(0, 1, 2, 3), bits(4, 8, 9, 10), bits(5, 6, 7, 11));
        put(x, 0);
        x.revoke(8);
        x.revoke(11);
        put(x, 12);
        put(x, 1, 4);
        revokes(x, 2, 1, 1);
        put(x, 7, 13);
        revokes(x, 2, 2, 1);
    }

    private static void revokes(SignalTable x, int broken, int shown, int first) {
        Check.due("revokes(0)", x.revokes(0), broken);
        Check.due("revokes(1)", x.revokes(1), shown);
        Check.due("revokes(2)", x.revokes(2), first);
    }
}
