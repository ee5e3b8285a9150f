import java.util.Arrays;

/**
 * Promises 25 and 26: play with open cards of full packs, held against every line of play there is. (What is
 * plainly right in small packs may go wrong where suits are long and somebody is better off losing the lead.)
 */
public final class OpenLotsTest {
    private final int suits;
    private final int ranks;
    private final int trump;
    private final byte[] known = new byte[1 << 18];
    private final int[] hand = new int[4];

    private OpenLotsTest(int suits, int ranks, int trump) {
        this.suits = suits;
        this.ranks = ranks;
        this.trump = trump;
    }

    public static void main(String[] args) {
        int from = args.length > 0 ? Integer.parseInt(args[0]) : 0;
        int deals = args.length > 1 ? Integer.parseInt(args[1]) : 150;
        int[][] packs = {{4, 4}, {2, 8}, {1, 16}, {3, 4}, {2, 6}, {4, 3}};
        for (int[] pack : packs) {
            for (int trump = -1; trump < pack[0]; trump++) {
                for (int seed = from; seed < from + deals; seed++) {
                    new OpenLotsTest(pack[0], pack[1], trump).play(seed);
                }
            }
        }
        Check.end("OpenLotsTest");
    }

    /** Plays a game card by card, now by the line, now not, and asks at each stage. */
    private void play(int seed) {
        SignalTable x = Check.table("pack " + suits + " " + ranks + ";" + (trump < 0 ? "" : "trump " + trump + ";"));
        x.deal(seed);
        x.lead(seed & 3);
        Arrays.fill(known, (byte) -1);
        for (int p = 0; p < 4; p++) {
            hand[p] = x.hand(p, true);
        }
        int[] table = new int[4];
        int laid = 0;
        int turn = seed & 3;
        int cards = suits * ranks;
        for (int i = 0; i < cards; i++) {
            String where = suits + " " + ranks + " trump " + trump + " deal " + seed + ", " + i + " played: ";
            int value = best(table, laid, turn);
            Check.due(where + "open()", x.open(), value);
            int least = least(table, laid, turn, value);
            if (i == seed % cards) {
                line(x, where, table.clone(), laid, turn);
            } else {
                Check.due(where + "line(0)", x.line(0), least);
            }
            int legal = legal(table, laid, turn);
            int greatest = 31 - Integer.numberOfLeadingZeros(legal);
            int card = (seed + i) % 3 == 0 ? least : greatest;
            Check.due(where + "play(" + card + ")", x.play(card), i + 1);
            hand[turn] &= ~(1 << card);
            table[laid] = card;
            laid++;
            turn = laid < 4 ? turn + 1 & 3 : winner(table, turn + 1 & 3);
            laid &= 3;
        }
        Check.due("all is played: open()", x.open(), 0);
    }

    /** The whole line from here on. */
    private void line(SignalTable x, String where, int[] table, int laid, int turn) {
        int[] kept = hand.clone();
        int left = Integer.bitCount(hand[0] | hand[1] | hand[2] | hand[3]);
        for (int i = 0; i < left; i++) {
            int card = least(table, laid, turn, best(table, laid, turn));
            Check.due(where + "line(" + i + ")", x.line(i), card);
            hand[turn] &= ~(1 << card);
            table[laid] = card;
            laid++;
            turn = laid < 4 ? turn + 1 & 3 : winner(table, turn + 1 & 3);
            laid &= 3;
        }
        Check.due(where + "line(" + left + ")", x.line(left), -1);
        System.arraycopy(kept, 0, hand, 0, 4);
    }

    private int suit(int card) {
        return card / ranks;
    }

    private int legal(int[] table, int laid, int turn) {
        int following = 0;
        for (int card = 0; laid > 0 && card < suits * ranks; card++) {
            following |= suit(card) == suit(table[0]) ? hand[turn] & 1 << card : 0;
        }
        return following != 0 ? following : hand[turn];
    }

    private int winner(int[] table, int leader) {
        int best = 0;
        for (int i = 1; i < 4; i++) {
            boolean same = suit(table[i]) == suit(table[best]);
            best = same && table[i] > table[best] || !same && suit(table[i]) == trump ? i : best;
        }
        return leader + best & 3;
    }

    /** The tricks of side 0 from here on, by every line of play. */
    private int best(int[] table, int laid, int turn) {
        if (hand[turn] == 0) {
            return 0;
        }
        int key = (hand[0] | hand[1] | hand[2] | hand[3]) << 2 | turn;
        if (laid == 0 && known[key] >= 0) {
            return known[key];
        }
        int best = -1;
        int legal = legal(table, laid, turn);
        for (int card = 0; card < 16; card++) {
            if ((legal >> card & 1) == 1) {
                int value = behind(table, laid, turn, card);
                best = best < 0 ? value : turn % 2 == 0 ? Math.max(best, value) : Math.min(best, value);
            }
        }
        if (laid == 0) {
            known[key] = (byte) best;
        }
        return best;
    }

    private int behind(int[] table, int laid, int turn, int card) {
        hand[turn] ^= 1 << card;
        int[] next = table.clone();
        next[laid] = card;
        int value;
        if (laid < 3) {
            value = best(next, laid + 1, turn + 1 & 3);
        } else {
            int winner = winner(next, turn + 1 & 3);
            value = 1 - winner % 2 + best(next, 0, winner);
        }
        hand[turn] ^= 1 << card;
        return value;
    }

    private int least(int[] table, int laid, int turn, int value) {
        int legal = legal(table, laid, turn);
        int card = 0;
        while ((legal >> card & 1) == 0 || behind(table, laid, turn, card) != value) {
            card++;
        }
        return card;
    }
}
