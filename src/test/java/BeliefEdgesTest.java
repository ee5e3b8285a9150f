/** The edges that the document names for variables, customs and what can be (II, III) and in promises 18 to 23. */
public final class BeliefEdgesTest {
    private static final int LEAST = Integer.MIN_VALUE;
    private static final int MOST = Integer.MAX_VALUE;
    private static final String[] VARS = {"suit", "rank", "led", "trick", "before", "held", "high", "low", "voids",
        "trumps", "count 0", "count 1", "count 2", "count 3"};
    /** Those of VARS that a when sees. */
    private static final int OPEN_VARS = 5;
    private static final String[] KINDS = {"lead", "follow", "discard"};

    /** The game of GAME: each card's variables, in the order of VARS, without a trump. */
    private static final int[] GAME = {0, 1, 5, 3, 7, 4, 2, 6};
    private static final int[][] VALUES = {
        {0, 0, -1, 0, -1, 1, 0, 0, 0, 0, 1, 1, 0, 0},
        {0, 1, 0, 0, -1, 2, 2, 1, 1, 0, 2, 0, 0, 0},
        {1, 1, 0, 0, -1, 2, 2, 1, 1, 0, 0, 2, 0, 0},
        {0, 3, 0, 0, -1, 1, 3, 3, 0, 0, 1, 1, 0, 0},
        {1, 3, -1, 1, -1, 1, 3, 3, 1, 0, 0, 1, 0, 0},
        {1, 0, 1, 1, -1, 1, 0, 0, 1, 0, 0, 1, 0, 0},
        {0, 2, 1, 1, 1, 1, 2, 2, 1, 0, 1, 0, 0, 0},
        {1, 2, 1, 1, 1, 1, 2, 2, 1, 0, 0, 1, 0, 0}};

    public static void main(String[] args) {
        variablesInSays();
        variablesInWhen();
        wrapping();
        dividing();
        byZero();
        applying();
        saysRefused();
        allWays();
        whatWasPlayed();
        whatHeHadThen();
        believed();
        believedVariables();
        himself();
        sureOnes();
        refusals();
        afterSome();
        having();
        knowing();
        knowsRefused();
        Check.end("BeliefEdgesTest");
    }

    private static int bits(int... cards) {
        int bits = 0;
        for (int card : cards) {
            bits |= 1 << card;
        }
        return bits;
    }

    private static void put(SignalTable x, int... cards) {
        for (int card : cards) {
            int n = x.count(5);
            Check.due("play(" + card + ")", x.play(card), n + 1);
        }
    }

    private static SignalTable game(String text) {
        SignalTable x = Check.table("pack 2 4;" + text);
        x.hands(bits(0, 4), bits(1, 2), bits(5, 6));
        put(x, GAME);
        return x;
    }

    /** A custom for each kind of card, with the same when or says. */
    private static String three(String rest) {
        StringBuilder text = new StringBuilder();
        for (int kind = 0; kind < 3; kind++) {
            text.append("custom " + (char) ('a' + kind) + " 2 " + KINDS[kind] + " " + rest + ";");
        }
        return text.toString();
    }

    private static String number(int value) {
        return value < 0 ? "0 - " + -value : "" + value;
    }

    // ---- II: variables

    private static void variablesInSays() {
        for (int v = 0; v < VARS.length; v++) {
            Check.sentence("II", v < OPEN_VARS ? "VARS of a CARD that is played: " + VARS[v]
                    : "In says these, and of his hand ahead of it: " + VARS[v]);
            for (int i = 0; i < GAME.length; i++) {
                value("", v, i, VALUES[i][v]);
            }
        }
        Check.sentence("II", "trumps (how many; 0 without TRUMP)");
        for (int i = 0; i < GAME.length; i++) {
            value("trump 0;", 9, i, VALUES[i][10]);
            value("trump 2;", 9, i, 0);
            value("trump 3;", 9, i, 0);
        }
        Check.sentence("II", "count (of a SUIT; 0 if there is not)");
        SignalTable x = Check.table("custom a 2 lead says count 0 == 1 and count 1 == 0 and count 2 == 0 and count 3 == 3;");
        x.hands(bits(0, 12, 13, 14), bits(1, 2, 3, 4), bits(5, 6, 7, 8));
        Check.due("all four suits: lies(0)", x.lies(0), 0);
    }

    private static void value(String trump, int v, int i, int due) {
        SignalTable x = game(trump + three("says " + VARS[v] + " == " + number(due)));
        Check.due(trump + VARS[v] + " of card " + i + " is " + due + ": a lie", x.says(i, 7, 1), 0);
        x = game(trump + three("says " + VARS[v] + " == " + number(due + 1)));
        Check.due(trump + VARS[v] + " of card " + i + " is not " + (due + 1) + ": a lie", x.says(i, 7, 1) != 0, true);
    }

    private static void variablesInWhen() {
        Check.sentence("II", "in when: suit, rank, led (its SUIT; -1 for a lead), trick (from 0 on), before ...; all others 0");
        for (int v = 0; v < VARS.length; v++) {
            for (int i = 0; i < GAME.length; i++) {
                int due = v < OPEN_VARS ? VALUES[i][v] : 0;
                SignalTable x = game("trump 0;" + three("when " + VARS[v] + " == " + number(due) + " says 1 == 2"));
                Check.due(VARS[v] + " of card " + i + " is " + due + ": applies", x.says(i, 7, 0) != 0, true);
                x = game("trump 0;" + three("when " + VARS[v] + " != " + number(due) + " says 1 == 2"));
                Check.due(VARS[v] + " of card " + i + " is not " + due + ": applies", x.says(i, 7, 0), 0);
            }
        }
    }

    private static void holds(String condition, boolean due) {
        SignalTable x = Check.table("pack 1 4; custom a 0 lead says " + condition + "; custom b 0 lead when " + condition
                + " says 1 == 1;");
        Check.due("true by " + condition, x.openings(0, 1), due ? 4 : 0);
        Check.due("applies by " + condition, x.openings(1, 0), due ? 4 : 0);
    }

    private static void wrapping() {
        Check.sentence("II", "Ints of 32 bits that wrap");
        String least = "8192 * 8192 * 32";
        holds(least + " < 0", true);
        holds(least + " == 0 - " + least, true);
        holds("0 < " + least + " - 1", true);
        holds(least + " - 1 + 1 == " + least, true);
        holds(least + " + " + least + " == 0", true);
        holds(least + " * 2 == 0", true);
        holds(least + " / (0 - 1) == " + least, true);
        holds("(" + least + " - 1) / (0 - 1) == " + least + " + 1", true);
        holds("9999 * 9999 * 9999 < 0", true);
        holds("9999 * 9999 * 9999 == 0 - 9999 * 9999 * 9999", false);
        holds("9999 * 9999 < 9999 * 9999 * 9999", false);
    }

    private static void dividing() {
        Check.sentence("II", "/ rounded towards 0");
        holds("7 / 2 == 3", true);
        holds("(0 - 7) / 2 == 0 - 3", true);
        holds("7 / (0 - 2) == 0 - 3", true);
        holds("(0 - 7) / (0 - 2) == 3", true);
        holds("1 / 2 == 0 and (0 - 1) / 2 == 0", true);
        holds("0 / 5 == 0", true);
        holds("0 - 7 / 2 == 0 - 3", true);
    }

    private static void byZero() {
        Check.sentence("II", "a LIT with a division by 0 does not hold, its not does.");
        for (String sign : new String[] {"==", "!=", "<", "<="}) {
            holds("1 / 0 " + sign + " 1", false);
            holds("1 " + sign + " 1 / 0", false);
            holds("0 / 0 " + sign + " 0 / 0", false);
            holds("not 1 / 0 " + sign + " 1", true);
            holds("not not 1 / 0 " + sign + " 1", false);
            holds("not not not 1 / 0 " + sign + " 1", true);
        }
        holds("0 * (1 / 0) == 0", false);
        holds("1 / (1 / 2) == 0", false);
        holds("((((1 / (2 - 2))))) != 7", false);
        holds("1 / 0 == 1 or 1 == 1", true);
        holds("1 == 1 or 1 / 0 == 1", true);
        holds("1 == 1 and 1 / 0 == 1", false);
        holds("1 / 0 == 1 and 1 == 1", false);
        holds("not 1 / 0 == 1 and 1 == 1", true);
        holds("1 / 0 == 1 or not 1 == 1", false);
        holds("1 / held == 1 or 1 == 2 or suit == 0", true);
        SignalTable x = Check.table("pack 1 4; custom a 0 lead says 6 / rank == 6; custom b 0 lead when 6 / rank != 6 says 1 == 1;");
        Check.due("by a variable: openings(0, 1)", x.openings(0, 1), 1);
        Check.due("by a variable: openings(1, 0)", x.openings(1, 0), 2);
    }

    private static void applying() {
        Check.sentence("II", "A CUSTOM APPLIES to a CARD of its KIND by a PLAYER of its SIDE if its when holds (always without)");
        int[] kinds = {0, 1, 2, 1, 0, 1, 2, 1};
        int[] players = {0, 1, 2, 3, 3, 0, 1, 2};
        for (int kind = 0; kind < 3; kind++) {
            StringBuilder text = new StringBuilder();
            for (int side = 0; side < 3; side++) {
                text.append("custom " + (char) ('a' + side) + " " + side + " " + KINDS[kind] + " says 1 == 2;");
                text.append("custom " + (char) ('d' + side) + " " + side + " " + KINDS[kind] + " when 1 == 2 says 1 == 1;");
            }
            SignalTable x = game(text.toString());
            for (int i = 0; i < 8; i++) {
                int due = kinds[i] == kind ? 16 | 1 << 2 * (players[i] % 2) : 0;
                Check.due(KINDS[kind] + ": says(" + i + ", 63, 0)", x.says(i, 63, 0), due);
                Check.due(KINDS[kind] + ": says(" + i + ", 63, 1)", x.says(i, 63, 1), due);
            }
        }
        Check.sentence("II", "it is TRUE if its says holds, else a LIE");
        SignalTable x = game(three("says rank < 3"));
        for (int i = 0; i < 8; i++) {
            int lie = VALUES[i][1] < 3 ? 0 : 1 << kinds[i];
            Check.due("says(" + i + ", 7, 1)", x.says(i, 7, 1), lie);
            Check.due("says(" + i + ", 7, 0)", x.says(i, 7, 0), 1 << kinds[i]);
            Check.due("not asked: says(" + i + ", " + (7 & ~(1 << kinds[i])) + ", 1)", x.says(i, 7 & ~(1 << kinds[i]), 1), 0);
        }
    }

    // ---- promise 18

    private static void saysRefused() {
        Check.sentence("Promise 18", "Of CUSTOMS (bits) those that APPLY (what 0), are a LIE (1) ...; NONE: no such ones.");
        SignalTable x = game(three("says 1 == 2"));
        for (int none : new int[] {-1, 8, 9, 16, LEAST, MOST}) {
            Check.due("says(" + none + ", 7, 0)", x.says(none, 7, 0), -1);
            Check.due("says(" + none + ", 0, 1)", x.says(none, 0, 1), -1);
        }
        for (int none : new int[] {-1, 8, 15, 64, LEAST, MOST}) {
            Check.due("says(0, " + none + ", 0)", x.says(0, none, 0), -1);
        }
        for (int none : new int[] {-1, 2, 3, LEAST, MOST}) {
            Check.due("says(0, 7, " + none + ")", x.says(0, 7, none), -1);
        }
        Check.due("the last card: says(7, 7, 1)", x.says(7, 7, 1), 2);
        Check.due("no customs asked: says(7, 0, 0)", x.says(7, 0, 0), 0);
        x = game("");
        Check.due("there are none: says(0, 0, 0)", x.says(0, 0, 0), 0);
        Check.due("there are none: says(0, 1, 0)", x.says(0, 1, 0), -1);
        x.undo();
        Check.due("taken back: says(7, 0, 0)", x.says(7, 0, 0), -1);
        Check.due("nothing is dealt: says(0, 0, 0)", new SignalTable().says(0, 0, 0), -1);
    }

    // ---- III: what can be

    private static void allWays() {
        Check.sentence("III", "all ways to deal the CARDS that he did not have to the three others (each HAND of them)");
        int[][] due = {{1, 4, 6}, {4, 1, 6}, {2, 4, 90}, {1, 8, 90}, {3, 4, 1680}, {2, 6, 1680}, {4, 4, 34650}, {2, 8, 34650}};
        for (int[] row : due) {
            SignalTable x = Check.table("pack " + row[0] + " " + row[1] + ";");
            x.deal(row[2]);
            for (int p = 0; p < 4; p++) {
                Check.due("canBe(" + p + ", 0)", x.canBe(p, 0), row[2]);
            }
        }
    }

    /** 0 has 0 2, 1 has 1 5, 2 has 4 6, 3 has 3 7. */
    private static SignalTable narrowing(int... cards) {
        SignalTable x = Check.table("pack 2 4;");
        x.hands(bits(0, 2), bits(1, 5), bits(4, 6));
        put(x, cards);
        return x;
    }

    private static void whatWasPlayed() {
        Check.sentence("III", "for each CARD that one of these three played: he had it; by what he had then he did not have to "
                + "follow, if it is a DISCARD");
        SignalTable x = narrowing(2, 1, 4, 3, 7, 0, 5, 6);
        int[] due = {90, 90, 30, 9, 6, 2, 2, 1, 1};
        for (int i = 0; i <= 8; i++) {
            Check.due("after(0, " + i + ", 0)", x.after(0, i, 0), due[i]);
        }
        Check.due("all is played: canBe(0, 0)", x.canBe(0, 0), 1);
        x = Check.table("pack 2 4;");
        x.hands(bits(0, 4), bits(1, 5), bits(3, 7));
        put(x, 0);
        x.revoke(5);
        Check.due("one who revokes had none, by what is seen", x.had(0, 1, 1, 0), 0);
        put(x, 3, 2, 7, 6, 4, 1);
        for (int p = 0; p < 4; p++) {
            Check.due("it shows: canBe(" + p + ", 0)", x.canBe(p, 0), p == 1 ? 1 : 0);
        }
        Check.due("ahead of it: after(0, 7, 0)", x.after(0, 7, 0), 0);
        Check.due("ahead of it: after(0, 2, 0)", x.after(0, 2, 0), 12);
    }

    private static void whatHeHadThen() {
        Check.sentence("III", "by what he had then he did not have to follow, if it is a DISCARD");
        SignalTable x = Check.table("pack 2 4;");
        x.hands(bits(0, 3), bits(1, 5), bits(2, 6));
        put(x, 3, 1, 2, 4);
        Check.due("3 has none: after(0, 4, 0)", x.after(0, 4, 0), 6);
        put(x, 0, 5);
        Check.due("1 had one, but not then: after(0, 6, 0)", x.after(0, 6, 0), 2);
        put(x, 6, 7);
        for (int p = 0; p < 4; p++) {
            Check.due("canBe(" + p + ", 0)", x.canBe(p, 0), 1);
        }
    }

    private static void believed() {
        Check.sentence("III", "and of each CUSTOM BELIEVED that APPLIES it is TRUE");
        SignalTable x = Check.table("pack 1 8; custom a 0 lead says high - low == 1; custom b 0 lead when rank == 7 says 1 == 2;"
                + "custom c 1 lead says 1 == 2; custom d 2 lead says rank == low; custom e 2 follow says held == 1;");
        x.hands(bits(0, 5), bits(2, 3), bits(4, 1));
        put(x, 0);
        Check.due("none believed: canBe(1, 0)", x.canBe(1, 0), 30);
        Check.due("a, which is a lie: canBe(1, 1)", x.canBe(1, 1), 6);
        Check.due("b, which does not apply: canBe(1, 2)", x.canBe(1, 2), 30);
        Check.due("c, of the other side: canBe(1, 4)", x.canBe(1, 4), 30);
        Check.due("d, which is true: canBe(1, 8)", x.canBe(1, 8), 30);
        Check.due("a and d: canBe(1, 9)", x.canBe(1, 9), 6);
        Check.due("e, of another kind: canBe(1, 16)", x.canBe(1, 16), 30);
        put(x, 3, 4);
        Check.due("e of 2: none held one: canBe(1, 16)", x.canBe(1, 16), 0);
        Check.due("canBe(1, 31)", x.canBe(1, 31), 0);
        Check.due("canBe(1, 0)", x.canBe(1, 0), 12);
    }

    /** The whole game is known at its end: a custom that was a lie leaves no deal, a true one leaves it. */
    private static void believedVariables() {
        Check.sentence("III", "and of each CUSTOM BELIEVED that APPLIES it is TRUE");
        int[] players = {0, 1, 2, 3, 3, 0, 1, 2};
        int[] kinds = {0, 1, 2, 1, 0, 1, 2, 1};
        for (int v = 0; v < VARS.length; v++) {
            for (int i = 0; i < GAME.length; i++) {
                String custom = "custom a 2 " + KINDS[kinds[i]] + " when trick == " + i / 4 + " and suit == " + VALUES[i][0]
                        + " and rank == " + VALUES[i][1] + " says " + VARS[v] + " == ";
                SignalTable x = game(custom + number(VALUES[i][v]) + ";");
                SignalTable y = game(custom + number(VALUES[i][v] + 1) + ";");
                for (int p = 0; p < 4; p++) {
                    Check.due(VARS[v] + " of card " + i + ", true: canBe(" + p + ", 1)", x.canBe(p, 1), 1);
                    Check.due(VARS[v] + " of card " + i + ", a lie: canBe(" + p + ", 1)", y.canBe(p, 1), p == players[i] ? 1 : 0);
                }
            }
        }
    }

    private static void himself() {
        Check.sentence("III", "for each CARD that one of these three played");
        SignalTable x = Check.table("pack 2 4; custom a 2 lead says 1 == 2;");
        x.hands(bits(0, 4), bits(1, 5), bits(3, 7));
        put(x, 0);
        Check.due("his own lie: canBe(0, 1)", x.canBe(0, 1), 90);
        Check.due("another's lie: canBe(1, 1)", x.canBe(1, 1), 0);
        x.revoke(5);
        Check.due("his own revoke: canBe(1, 0)", x.canBe(1, 0), 30);
        Check.due("another's revoke: canBe(3, 0)", x.canBe(3, 0), 6);
    }

    private static void sureOnes() {
        Check.sentence("III", "SURE: CARDS that he did not have and that one and the same had in all of these.");
        SignalTable x = Check.table("pack 1 4; custom a 2 follow says 1 == 2;");
        x.hands(1, 2, 4);
        int[][] due = {{0, 0, 0, 0}, {0, 1, 1, 1}, {2, 1, 3, 3}, {14, 13, 11, 7}, {14, 13, 11, 7}};
        for (int n = 0; n <= 4; n++) {
            for (int p = 0; p < 4; p++) {
                int sure = n == 2 && p == 2 ? 11 : n == 2 && p == 3 ? 7 : due[n][p];
                Check.due(n + " played: sure(" + p + ", 0)", x.sure(p, 0), sure);
            }
            x.play(n);
        }
        Check.sentence("Promise 21", "SURE ones (bits; 0 if none CAN BE)");
        Check.due("canBe(0, 1)", x.canBe(0, 1), 0);
        Check.due("sure(0, 1)", x.sure(0, 1), 0);
        SignalTable y = narrowing(2, 1, 4, 3, 7);
        Check.due("2's other card is 5 or 6: sure(0, 0)", y.sure(0, 0), bits(1, 3, 4, 7));
        y.play(0);
        y.play(5);
        Check.due("one deal: sure(0, 0)", y.sure(0, 0), 255 & ~bits(0, 2));
        Check.due("one deal: sure(1, 0)", y.sure(1, 0), 255 & ~bits(1, 5));
    }

    private static void refusals() {
        SignalTable none = new SignalTable();
        SignalTable x = Check.table("pack 2 4; custom a 2 lead says 1 == 1; custom b 2 lead says 1 == 1;");
        x.deal(1);
        Check.sentence("Promise 19", "NONE: no such ones, nothing is dealt.");
        Check.due("nothing is dealt: canBe(0, 0)", none.canBe(0, 0), -1);
        Check.due("canBe(0, 3)", x.canBe(0, 3), 90);
        Check.due("canBe(3, 0)", x.canBe(3, 0), 90);
        for (int no : new int[] {-1, 4, LEAST, MOST}) {
            Check.due("canBe(" + no + ", 0)", x.canBe(no, 0), -1);
            Check.due("canBe(0, " + no + ")", x.canBe(0, no), -1);
        }
        Check.sentence("Promise 21", "NONE: no such ones, nothing is dealt.");
        Check.due("nothing is dealt: sure(0, 0)", none.sure(0, 0), -1);
        for (int no : new int[] {-1, 4, LEAST, MOST}) {
            Check.due("sure(" + no + ", 0)", x.sure(no, 0), -1);
            Check.due("sure(0, " + no + ")", x.sure(0, no), -1);
        }
        Check.sentence("Promise 20", "NONE: no such ones, himself, nothing is dealt.");
        Check.due("nothing is dealt: had(0, 1, 0, 0)", none.had(0, 1, 0, 0), -1);
        for (int no : new int[] {-1, 4, LEAST, MOST}) {
            Check.due("had(" + no + ", 0, 0, 0)", x.had(no, 0, 0, 0), -1);
            Check.due("had(0, " + no + ", 0, 0)", x.had(0, no, 0, 0), -1);
            Check.due("had(0, 1, 0, " + no + ")", x.had(0, 1, 0, no), -1);
        }
        for (int no : new int[] {-1, 8, 32, LEAST, MOST}) {
            Check.due("had(0, 1, " + no + ", 0)", x.had(0, 1, no, 0), -1);
        }
        for (int p = 0; p < 4; p++) {
            Check.due("himself: had(" + p + ", " + p + ", 0, 0)", x.had(p, p, 0, 0), -1);
        }
        Check.sentence("Promise 22", "NONE: no such ones, nothing is dealt.");
        Check.due("nothing is dealt: after(0, 0, 0)", none.after(0, 0, 0), -1);
        for (int no : new int[] {-1, 4, LEAST, MOST}) {
            Check.due("after(" + no + ", 0, 0)", x.after(no, 0, 0), -1);
            Check.due("after(0, 0, " + no + ")", x.after(0, 0, no), -1);
        }
        for (int no : new int[] {-1, 1, 8, LEAST, MOST}) {
            Check.due("after(0, " + no + ", 0)", x.after(0, no, 0), -1);
        }
    }

    private static void afterSome() {
        Check.sentence("III", "By the first i CARDS that were played: as if no more had been.");
        SignalTable x = Check.table("pack 1 8; custom a 2 follow says held == 1; custom b 0 lead says high - low == 1;");
        x.hands(bits(0, 1), bits(2, 3), bits(4, 5));
        put(x, 1, 3, 4, 6, 7);
        int[] plain = {90, 30, 30, 12, 6, 2};
        int[] byA = {90, 30, 30, 0, 0, 0};
        int[] byB = {90, 6, 6, 3, 2, 1};
        for (int i = 0; i < 6; i++) {
            Check.due("after(1, " + i + ", 0)", x.after(1, i, 0), plain[i]);
            Check.due("after(1, " + i + ", 1)", x.after(1, i, 1), byA[i]);
            Check.due("after(1, " + i + ", 2)", x.after(1, i, 2), byB[i]);
            Check.due("after(1, " + i + ", 3)", x.after(1, i, 3), Math.min(byA[i], byB[i]));
        }
        Check.due("all of them: canBe(1, 2)", x.canBe(1, 2), 1);
        Check.due("one more: after(1, 6, 0)", x.after(1, 6, 0), -1);
        Check.due("the game stays", x.count(5), 5);
    }

    private static void having() {
        Check.sentence("Promise 20", "In how many of them another PLAYER had a CARD");
        SignalTable x = narrowing(2, 1, 4, 3);
        int[][] due = {{0, 0, 0, 0}, {0, 6, 0, 0}, {0, 0, 0, 0}, {0, 0, 0, 6}, {0, 0, 6, 0}, {0, 2, 2, 2}, {0, 2, 2, 2}, {0, 2, 2, 2}};
        for (int card = 0; card < 8; card++) {
            for (int other = 1; other < 4; other++) {
                Check.due("had(0, " + other + ", " + card + ", 0)", x.had(0, other, card, 0), due[card][other]);
            }
        }
        x = Check.table("pack 1 4; custom a 2 lead says 1 == 2;");
        x.hands(1, 2, 4);
        put(x, 0);
        Check.due("none can be: had(1, 0, 0, 1)", x.had(1, 0, 0, 1), 0);
        Check.due("had(1, 0, 0, 0)", x.had(1, 0, 0, 0), 2);
    }

    // ---- promise 23

    private static void knowing() {
        Check.sentence("III", "the other one, who sees his own HAND of it and BELIEVES the same, would be SURE of it (or had it "
                + "himself)");
        SignalTable x = Check.table("pack 1 4; custom a 2 lead says 1 == 2;");
        x.hands(1, 2, 4);
        for (int card = 0; card < 4; card++) {
            Check.due("nothing played, each in two of six: knows(0, 1, " + card + ", 0)", x.knows(0, 1, card, 0), card == 0 ? 0 : 2);
        }
        put(x, 0);
        Check.due("what was played is sure: knows(3, 1, 0, 0)", x.knows(3, 1, 0, 0), 2);
        Check.due("he sees it himself: knows(3, 0, 0, 0)", x.knows(3, 0, 0, 0), 2);
        Check.due("his own, of which the other can't be sure: knows(3, 1, 3, 0)", x.knows(3, 1, 3, 0), 0);
        Check.due("believing a lie: knows(3, 1, 0, 1)", x.knows(3, 1, 0, 1), 0);
        put(x, 1);
        Check.due("2 sees all but 3's: knows(3, 2, 3, 0)", x.knows(3, 2, 3, 0), 1);
        Check.due("0 does not: knows(3, 0, 3, 0)", x.knows(3, 0, 3, 0), 0);
        put(x, 2);
        Check.due("now he does: knows(3, 0, 3, 0)", x.knows(3, 0, 3, 0), 1);
        put(x, 3);
        for (int card = 0; card < 4; card++) {
            Check.due("all is played: knows(0, 1, " + card + ", 0)", x.knows(0, 1, card, 0), 1);
        }
    }

    private static void knowsRefused() {
        Check.sentence("Promise 23", "-2: some HAND has more than 3 CARDS now");
        SignalTable x = Check.table("pack 1 16;");
        x.hands(0x000f, 0x00f0, 0x0f00);
        for (int card = 0; card < 16; card += 4) {
            Check.due("knows(0, 1, 0, 0)", x.knows(0, 1, 0, 0), -2);
            put(x, card);
        }
        Check.due("3 each: knows(0, 1, 0, 0)", x.knows(0, 1, 0, 0), x.canBe(0, 0));
        for (int leader = 0; leader < 4; leader++) {
            x.hands(0x000f, 0x00f0, 0x0f00);
            x.lead(leader);
            for (int i = 0; i < 3; i++) {
                put(x, (leader + i) % 4 * 4);
            }
            Check.due("4 with " + x.turn() + " alone: knows(0, 1, 0, 0)", x.knows(0, 1, 0, 0), -2);
        }
        x = Check.table("pack 3 4; custom a 2 lead says 1 == 1;");
        x.deal(3);
        Check.due("3 from the start: knows(0, 1, 0, 0)", x.knows(0, 1, 0, 0) >= 0, true);
        Check.sentence("Promise 23", "NONE: no such ones, himself, nothing is dealt.");
        Check.due("nothing is dealt: knows(0, 1, 0, 0)", new SignalTable().knows(0, 1, 0, 0), -1);
        for (int no : new int[] {-1, 4, LEAST, MOST}) {
            Check.due("knows(" + no + ", 1, 0, 0)", x.knows(no, 1, 0, 0), -1);
            Check.due("knows(0, " + no + ", 0, 0)", x.knows(0, no, 0, 0), -1);
        }
        for (int no : new int[] {-1, 2, 3, LEAST, MOST}) {
            Check.due("knows(0, 1, 0, " + no + ")", x.knows(0, 1, 0, no), -1);
        }
        for (int no : new int[] {-1, 12, 32, LEAST, MOST}) {
            Check.due("knows(0, 1, " + no + ", 0)", x.knows(0, 1, no, 0), -1);
        }
        for (int p = 0; p < 4; p++) {
            Check.due("himself: knows(" + p + ", " + p + ", 0, 0)", x.knows(p, p, 0, 0), -1);
        }
    }
}
