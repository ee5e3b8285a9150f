/** The edges that the document names for play with open cards, lies and gains (III) and in promises 25 to 36. */
public final class PlayEdgesTest {
    private static final int LEAST = Integer.MIN_VALUE;
    private static final int MOST = Integer.MAX_VALUE;
    private static final int NO_WORTH = -1000000;
    private static final String THREE = "pack 2 4; trump 0; custom a 2 lead says rank == low and held == 2;"
            + "custom b 0 follow says rank == high; custom c 2 discard when suit == 1 says voids == 1;";

    public static void main(String[] args) {
        openPlay();
        theLine();
        lineRefused();
        threeCards();
        means();
        meanRefused();
        choices();
        spreads();
        safeOnes();
        losses();
        differing();
        choiceRefused();
        liesOfCards();
        worthOfLies();
        gains();
        gainRefused();
        best();
        theGameStays();
        otherStates();
        otherTexts();
        manyCalls();
        Check.end("PlayEdgesTest");
    }

    private static int bits(int... cards) {
        int bits = 0;
        for (int card : cards) {
            bits |= 1 << card;
        }
        return bits;
    }

    private static void put(SignalTable x, int... cards) {
        for (int card : cards) {
            int n = x.count(5);
            Check.due("play(" + card + ")", x.play(card), n + 1);
        }
    }

    // ---- promises 25, 26

    private static void openPlay() {
        Check.sentence("Promise 25", "OPEN; -2: nothing is dealt.");
        SignalTable x = Check.table("pack 1 8;");
        Check.due("nothing is dealt: open()", x.open(), -2);
        x.hands(bits(0, 7), bits(1, 2), bits(5, 6));
        Check.sentence("III", "OPEN: how many more SIDE 0 wins (the one on the table, too)");
        int[] cards = {7, 1, 5, 3, 0, 2, 6, 4};
        int[] due = {2, 2, 2, 2, 1, 1, 1, 1, 0};
        for (int i = 0; i <= 8; i++) {
            Check.due(i + " played: open()", x.open(), due[i]);
            if (i < 8) {
                put(x, cards[i]);
            }
        }
        Check.sentence("III", "SIDE 0 wants as many more TRICKS as can be, SIDE 1 as few");
        x = Check.table("pack 1 4;");
        for (int best = 0; best < 4; best++) {
            int[] hands = {1, 2, 4, 8};
            hands[3] = hands[best];
            hands[best] = 8;
            x.hands(hands[0], hands[1], hands[2]);
            Check.due("the best card with " + best + ": open()", x.open(), best % 2 == 0 ? 1 : 0);
        }
        x = Check.table("pack 1 16;");
        x.hands(0x000f, 0x00f0, 0xf000);
        Check.due("all four tricks: open()", x.open(), 4);
        x.hands(0x000f, 0xf000, 0x00f0);
        Check.due("none: open()", x.open(), 0);
        Check.sentence("III", "all follow if they MUST");
        x = Check.table("pack 2 2; trump 1;");
        x.hands(2, 1, 4);
        Check.due("3 has the high trump: open()", x.open(), 0);
        x = Check.table("pack 2 4; trump 1;");
        x.hands(bits(2, 3), bits(0, 7), bits(4, 5));
        Check.due("1 must follow first, then his trump wins: open()", x.open(), 1);
        put(x, 3);
        Check.due("with it on the table: open()", x.open(), 1);
        x.revoke(7);
        Check.due("he revokes, and 3 has the next trump: open()", x.open(), 0);
    }

    private static void theLine() {
        Check.sentence("III", "THE LINE: CARD by CARD the least one by which that is reached.");
        SignalTable x = Check.table("pack 1 8;");
        x.hands(bits(0, 7), bits(1, 2), bits(5, 6));
        line(x, 0, 1, 5, 3, 6, 4, 7, 2);
        put(x, 7);
        line(x, 1, 5, 3, 0, 2, 6, 4);
        put(x, 2, 6, 4);
        line(x, 0, 1, 5, 3);
        put(x, 0, 1, 5);
        line(x, 3);
        put(x, 3);
        line(x);
        x.hands(bits(0, 1), bits(6, 7), bits(2, 3));
        Check.due("side 1 takes both: open()", x.open(), 0);
        line(x, 0, 6, 2, 4, 7, 3, 5, 1);
        x.hands(bits(0, 6), bits(1, 7), bits(2, 3));
        line(x, 0, 1, 2, 4, 5, 6, 7, 3);
        x = Check.table("pack 2 4;");
        x.hands(bits(0, 3), bits(6, 7), bits(1, 5));
        Check.due("by 3 and then 0: open()", x.open(), 2);
        line(x, 3, 6, 1, 2, 0, 7, 5, 4);
        x.hands(bits(2, 4), bits(0, 3), bits(6, 7));
        x.lead(1);
        Check.due("side 1 likewise: open()", x.open(), 0);
        line(x, 3, 6, 1, 2, 0, 7, 5, 4);
    }

    private static void line(SignalTable x, int... due) {
        for (int i = 0; i < due.length; i++) {
            Check.due("line(" + i + ")", x.line(i), due[i]);
        }
        Check.due("line(" + due.length + ")", x.line(due.length), -1);
        Check.due("line(-1)", x.line(-1), -1);
    }

    private static void lineRefused() {
        Check.sentence("Promise 26", "NONE: not so many, nothing is dealt.");
        SignalTable x = Check.table("pack 1 16;");
        for (int i : new int[] {-1, 0, 15, 16, LEAST, MOST}) {
            Check.due("nothing is dealt: line(" + i + ")", x.line(i), -1);
        }
        x.hands(0x000f, 0x00f0, 0xf000);
        for (int i : new int[] {-1, 16, 17, LEAST, MOST}) {
            Check.due("line(" + i + ")", x.line(i), -1);
        }
        int all = 0;
        for (int i = 0; i < 16; i++) {
            all |= 1 << x.line(i);
        }
        Check.due("each card once", all, 0xffff);
    }

    // ---- promises 27 to 32

    /** Four suits of four, a suit for each player. */
    private static SignalTable suitEach(String text) {
        SignalTable x = Check.table(text);
        x.hands(0x000f, 0x00f0, 0x0f00);
        return x;
    }

    private static void threeCards() {
        String text = "custom a 2 lead says 1 == 1;";
        SignalTable x = suitEach(text);
        for (int card = 0; card < 16; card += 4) {
            Check.sentence("Promise 27", "-2: he has more than 3 CARDS");
            Check.due("mean(" + card + ", 0)", x.mean(card, 0), -2);
            Check.sentence("Promise 28", "-2: he has more than 3 CARDS");
            Check.due("choice(1)", x.choice(1), -2);
            Check.sentence("Promise 29", "-2, -1 as mean()");
            Check.due("spread(" + card + ", 0, 0)", x.spread(card, 0, 0), -2);
            Check.sentence("Promise 30", "-2: he has more than 3 CARDS");
            Check.due("safe(0, 0)", x.safe(0, 0), -2);
            Check.due("safe(0, 1)", x.safe(0, 1), -2);
            Check.sentence("Promise 31", "LOSS; -2, NONE likewise.");
            Check.due("loss(0)", x.loss(0), -2);
            Check.sentence("Promise 32", "-2: he has more than 3 CARDS");
            Check.due("differs(0)", x.differs(0), -2);
            Check.sentence("Promise 34", "-1000000: ... he has more than 3 CARDS");
            Check.due("worth(1)", x.worth(1), NO_WORTH);
            put(x, card);
        }
        Check.sentence("III", "(3 CARDS in his hand at most)");
        Check.due("3 cards, none of the others has a trump: mean(1, 0)", x.mean(1, 0), 3L * x.canBe(0, 0));
        Check.due("choice(0)", x.choice(0), 1);
        Check.due("spread(1, 0, 3)", x.spread(1, 0, 3), x.canBe(0, 0));
        Check.due("safe(0, 0)", x.safe(0, 0), 1);
        Check.due("safe(0, 1)", x.safe(0, 1), 3);
        Check.due("loss(0)", x.loss(0), 0);
        Check.due("differs(0)", x.differs(0), -3);
        x.undo();
        Check.due("4 cards again: choice(0)", x.choice(0), -2);
    }

    private static void means() {
        Check.sentence("III", "MEAN ...: the sum, over all deals that CAN BE for him, of the more TRICKS that his SIDE wins by OPEN "
                + "PLAY from there, if he plays it");
        SignalTable x = Check.table("pack 1 4; custom a 2 lead says 1 == 2;");
        x.hands(1, 2, 4);
        Check.due("2 has the best in two of six: mean(0, 0)", x.mean(0, 0), 2);
        put(x, 0);
        Check.due("3 has the best in one of two: mean(1, 0)", x.mean(1, 0), 1);
        Check.due("believing a lie nothing can be: mean(1, 1)", x.mean(1, 1), 0);
        put(x, 1);
        Check.due("3 has it: mean(2, 0)", x.mean(2, 0), 0);
        put(x, 2);
        Check.due("he has it: mean(3, 0)", x.mean(3, 0), 1);
        x = Check.table("pack 1 8;");
        x.hands(bits(0, 7), bits(1, 2), bits(5, 6));
        Check.due("7 wins, and 6 with 2 in 30 of 90: mean(0, 0)", x.mean(0, 0), 120);
        Check.due("mean(7, 0)", x.mean(7, 0), 120);
        x.lead(1);
        Check.due("side 1: neither 1 nor 2 wins", x.mean(1, 0), x.mean(2, 0));
    }

    private static void meanRefused() {
        Check.sentence("Promise 27", "-1: no such ones, nobody is to play, he may not play that CARD.");
        SignalTable x = Check.table(THREE);
        Check.due("nothing is dealt: mean(0, 0)", x.mean(0, 0), -1);
        x.hands(bits(0, 4), bits(1, 5), bits(3, 7));
        Check.due("mean(0, 7)", x.mean(0, 7) >= 0, true);
        for (int no : new int[] {-1, 8, 15, 64, LEAST, MOST}) {
            Check.due("mean(0, " + no + ")", x.mean(0, no), -1);
        }
        for (int no : new int[] {-1, 1, 2, 3, 5, 6, 7, 8, 32, 36, LEAST, MOST}) {
            Check.due("mean(" + no + ", 0)", x.mean(no, 0), -1);
        }
        put(x, 0);
        Check.due("he must follow: mean(5, 0)", x.mean(5, 0), -1);
        Check.due("what was played: mean(0, 0)", x.mean(0, 0), -1);
        put(x, 1, 3, 2, 7, 6, 4, 5);
        for (int card = 0; card < 8; card++) {
            Check.due("all is played: mean(" + card + ", 0)", x.mean(card, 0), -1);
        }
    }

    private static void choices() {
        Check.sentence("III", "CHOICE: of the CARDS that he may play that with the greatest MEAN; of alike ones the least.");
        SignalTable x = Check.table("pack 1 8;");
        x.hands(bits(0, 7), bits(1, 2), bits(5, 6));
        Check.due("alike: choice(0)", x.choice(0), 0);
        x = Check.table(THREE);
        x.hands(bits(1, 3), bits(0, 7), bits(2, 6));
        Check.due("mean(1, 1)", x.mean(1, 1), 120);
        Check.due("mean(3, 1)", x.mean(3, 1), 168);
        Check.due("the greatest: choice(1)", x.choice(1), 3);
        put(x, 3);
        Check.due("he must follow: choice(0)", x.choice(0), 0);
        x = Check.table("pack 1 8; custom a 0 lead says 1 == 2;");
        x.hands(bits(0, 1), bits(2, 7), bits(5, 6));
        put(x, 0);
        Check.due("without belief: choice(0)", x.choice(0), x.mean(7, 0) > x.mean(2, 0) ? 7 : 2);
        Check.due("nothing can be, all alike: choice(1)", x.choice(1), 2);
    }

    private static void spreads() {
        Check.sentence("Promise 29", "SPREAD of k (0 .. 4); -2, -1 as mean(), no such k.");
        SignalTable x = Check.table("pack 3 4; trump 2;");
        Check.due("nothing is dealt: spread(0, 0, 0)", x.spread(0, 0, 0), -1);
        x.hands(1408, 592, 2051);
        int[] by8 = {100, 180, 840, 560, 0};
        int sum = 0;
        for (int k = 0; k <= 4; k++) {
            Check.due("spread(8, 0, " + k + ")", x.spread(8, 0, k), by8[k]);
            sum += k * x.spread(8, 0, k);
        }
        Check.due("mean(8, 0)", x.mean(8, 0), sum);
        for (int no : new int[] {-1, 5, 6, LEAST, MOST}) {
            Check.due("spread(8, 0, " + no + ")", x.spread(8, 0, no), -1);
        }
        for (int no : new int[] {-1, 0, 6, 9, 12, 40, LEAST, MOST}) {
            Check.due("spread(" + no + ", 0, 0)", x.spread(no, 0, 0), -1);
        }
        for (int no : new int[] {-1, 1, 2, LEAST, MOST}) {
            Check.due("spread(8, " + no + ", 0)", x.spread(8, no, 0), -1);
        }
        SignalTable y = Check.table("pack 1 4;");
        y.hands(1, 2, 4);
        put(y, 0, 1, 2, 3);
        Check.due("all is played: spread(3, 0, 0)", y.spread(3, 0, 0), -1);
        y = Check.table("pack 1 4; custom a 2 lead says 1 == 2;");
        y.hands(1, 2, 4);
        put(y, 0);
        Check.due("nothing can be: spread(1, 1, 0)", y.spread(1, 1, 0), 0);
        Check.due("spread(1, 0, 0)", y.spread(1, 0, 0), 1);
        Check.due("spread(1, 0, 1)", y.spread(1, 0, 1), 1);
    }

    private static void safeOnes() {
        Check.sentence("III", "SAFE: of the CARDS that he may play that by which the least of its TRICKS over these deals is greatest "
                + "(0 if none CAN BE); of alike ones the one with the greatest MEAN, then the least.");
        SignalTable x = Check.table("pack 3 4; trump 2;");
        x.hands(1408, 592, 2051);
        Check.due("7 has a lesser mean: mean(7, 0)", x.mean(7, 0), 3394);
        Check.due("safe(0, 0)", x.safe(0, 0), 7);
        Check.due("safe(0, 1)", x.safe(0, 1), 1);
        Check.due("choice(0)", x.choice(0), 8);
        x = Check.table("pack 1 8; custom a 0 lead says 1 == 2;");
        x.hands(bits(0, 7), bits(1, 2), bits(5, 6));
        Check.due("alike in both: safe(0, 0)", x.safe(0, 0), 0);
        Check.due("safe(0, 1)", x.safe(0, 1), 1);
        put(x, 0);
        Check.due("none can be: safe(1, 0)", x.safe(1, 0), 1);
        Check.due("none can be: safe(1, 1)", x.safe(1, 1), 0);
        x = Check.table(THREE);
        x.hands(bits(1, 3), bits(0, 7), bits(2, 6));
        Check.due("the greatest mean: safe(0, 0)", x.safe(0, 0), 3);
        Check.sentence("Promise 30", "NONE: no such CUSTOMS, what, nobody is to play.");
        for (int no : new int[] {-1, 2, 3, LEAST, MOST}) {
            Check.due("safe(0, " + no + ")", x.safe(0, no), -1);
        }
        for (int no : new int[] {-1, 8, LEAST, MOST}) {
            Check.due("safe(" + no + ", 0)", x.safe(no, 0), -1);
            Check.due("safe(" + no + ", 1)", x.safe(no, 1), -1);
        }
        Check.due("nothing is dealt: safe(0, 0)", new SignalTable().safe(0, 0), -1);
        Check.due("nothing is dealt: safe(0, 1)", new SignalTable().safe(0, 1), -1);
    }

    private static void losses() {
        Check.sentence("III", "LOSS: how many TRICKS his SIDE loses by CHOICE in OPEN PLAY with what there really is.");
        SignalTable x = Check.table("pack 3 4; trump 2;");
        x.hands(704, 259, 56);
        Check.due("open()", x.open(), 1);
        put(x, x.choice(0));
        Check.due("behind his choice: open()", x.open(), 0);
        x.undo();
        Check.due("loss(0)", x.loss(0), 1);
        x = Check.table(THREE);
        x.hands(36, 10, 129);
        put(x, 2);
        int open = x.open();
        Check.due("of side 1: loss(3)", x.loss(3), 1);
        put(x, x.choice(3));
        Check.due("side 0 wins more: open()", x.open(), open + 1);
        x.undo();
        Check.due("without belief: loss(0)", x.loss(0), 0);
        x = Check.table("pack 1 4;");
        x.hands(1, 2, 4);
        Check.due("no choice, no loss: loss(0)", x.loss(0), 0);
    }

    private static void differing() {
        Check.sentence("Promise 32", "DIFFERS; ... -3: there is no such CARD ... (The GAME stays.)");
        SignalTable x = Check.table("pack 3 4; trump 2;");
        x.hands(704, 259, 56);
        Check.due("at once: differs(0)", x.differs(0), 0);
        x = Check.table(THREE);
        x.hands(36, 10, 129);
        String before = Seen.of(x);
        Check.due("the second card: differs(3)", x.differs(3), 1);
        Check.due("none: differs(0)", x.differs(0), -3);
        Check.due("the game stays", Seen.of(x), before);
        put(x, x.choice(3));
        Check.due("its place in the game: differs(3)", x.differs(3), 1);
        put(x, x.choice(3));
        Check.due("behind it: differs(3)", x.differs(3), -3);
        for (int i = 0; i < 5; i++) {
            put(x, x.choice(0));
        }
        Check.due("the last card: differs(0)", x.differs(0), -3);
        Check.due("count(5)", x.count(5), 7);
    }

    private static void choiceRefused() {
        SignalTable x = Check.table(THREE);
        noneOfThese(x, "nothing is dealt", 0);
        x.hands(bits(0, 4), bits(1, 5), bits(3, 7));
        for (int no : new int[] {-1, 8, 15, LEAST, MOST}) {
            noneOfThese(x, "no such customs", no);
        }
        Check.due("all customs: choice(7)", x.choice(7) >= 0, true);
        put(x, 0, 1, 3, 2, 7, 6, 4, 5);
        noneOfThese(x, "all is played", 0);
        x.undo();
        Check.due("one card left: choice(7)", x.choice(7), 5);
    }

    private static void noneOfThese(SignalTable x, String why, int customs) {
        Check.sentence("Promise 28", "NONE: no such CUSTOMS, nobody is to play.");
        Check.due(why + ": choice(" + customs + ")", x.choice(customs), -1);
        Check.sentence("Promise 30", "NONE: no such CUSTOMS, what, nobody is to play.");
        Check.due(why + ": safe(" + customs + ", 0)", x.safe(customs, 0), -1);
        Check.sentence("Promise 31", "LOSS; -2, NONE likewise.");
        Check.due(why + ": loss(" + customs + ")", x.loss(customs), -1);
        Check.sentence("Promise 32", "NONE: no such CUSTOMS, nobody is to play.");
        Check.due(why + ": differs(" + customs + ")", x.differs(customs), -1);
        Check.sentence("Promise 34", "-1000000: ... no such CUSTOMS, nobody is to play");
        Check.due(why + ": worth(" + customs + ")", x.worth(customs), NO_WORTH);
    }

    // ---- promises 33, 34

    private static void liesOfCards() {
        Check.sentence("III", "LIES of a CARD: CUSTOMS that APPLY if he plays it, and would be a LIE.");
        SignalTable x = Check.table("pack 2 4; custom a 2 lead says rank == low; custom b 1 lead says 1 == 2;"
                + "custom c 0 lead says 1 == 2; custom d 2 follow says 1 == 2; custom e 2 discard says 1 == 2;"
                + "custom f 2 lead when rank == 1 says 1 == 2;");
        x.hands(bits(0, 1), bits(2, 4), bits(5, 6));
        Check.due("lies(0): c", x.lies(0), 4);
        Check.due("lies(1): a, c, f", x.lies(1), 37);
        put(x, 0);
        Check.due("lies(2): d", x.lies(2), 8);
        put(x, 2);
        Check.due("lies(5): e", x.lies(5), 16);
        Check.due("lies(6): e", x.lies(6), 16);
        put(x, 5);
        Check.due("lies(3): d", x.lies(3), 8);
        Check.sentence("Promise 33", "LIES of a CARD that who is to play may play; NONE: no such ones, nobody is to play.");
        for (int no : new int[] {0, 1, 2, 4, 5, 6, 7, 8, -1, 35, 67, LEAST, MOST}) {
            Check.due("lies(" + no + ")", x.lies(no), -1);
        }
        put(x, 3, 7, 1, 4, 6);
        for (int card = -1; card < 9; card++) {
            Check.due("all is played: lies(" + card + ")", x.lies(card), -1);
            Check.due("nothing is dealt: lies(" + card + ")", new SignalTable().lies(card), -1);
        }
        x = suitEach("custom a 2 lead says rank == low;");
        Check.due("4 cards, a lie: lies(1)", x.lies(1), 1);
        Check.due("4 cards, no lie: lies(0)", x.lies(0), 0);
        put(x, 0);
        Check.due("none of the suit: lies(7)", x.lies(7), 0);
    }

    private static void worthOfLies() {
        Check.sentence("III", "WORTH OF LIES, BELIEVING: the greatest MEAN of a CARD that has some LIE of those BELIEVED, less the "
                + "greatest of one that has none.");
        SignalTable x = Check.table("pack 2 4; trump 0; custom a 2 lead says rank == low; custom b 2 lead says rank == high;"
                + "custom c 2 lead says 1 == 1; custom d 2 lead says 1 == 2;");
        x.hands(bits(1, 3), bits(0, 7), bits(2, 6));
        Check.due("3 is the lie: worth(1)", x.worth(1), 48);
        Check.due("1 is the lie: worth(2)", x.worth(2), -48);
        Check.due("with what is no lie: worth(5)", x.worth(5), 48);
        Check.sentence("Promise 34", "-1000000: there are none of both");
        Check.due("nothing believed: worth(0)", x.worth(0), NO_WORTH);
        Check.due("no lie: worth(4)", x.worth(4), NO_WORTH);
        Check.due("each a lie: worth(8)", x.worth(8), NO_WORTH);
        Check.due("each a lie of one: worth(3)", x.worth(3), NO_WORTH);
        Check.due("worth(15)", x.worth(15), NO_WORTH);
        Check.due("no such customs: worth(16)", x.worth(16), NO_WORTH);
        put(x, 3);
        Check.due("one card only: worth(1)", x.worth(1), NO_WORTH);
        x = Check.table("pack 1 8; custom a 2 lead says rank == low;");
        x.hands(bits(0, 7), bits(1, 2), bits(5, 6));
        Check.due("alike: worth(1)", x.worth(1), 0);
    }

    // ---- promises 35, 36

    private static Plain plain(String text) {
        Plain y = new Plain();
        y.tape.append(text);
        Check.due("the plain one reads", y.read(), 0);
        return y;
    }

    private static void gains() {
        Check.sentence("III", "GAIN ... over m deals (SEEDS seed, seed + 1, ..; PLAYER 0 leads)");
        SignalTable x = Check.table(THREE);
        Plain y = plain(THREE);
        for (int seed : new int[] {0, 60, 140, -3, LEAST, MOST - 2}) {
            for (int m : new int[] {1, 2, 20}) {
                Check.due("gain(1, " + seed + ", " + m + ")", x.gain(1, seed, m), y.gain(1, seed, m));
                Check.due("gain(7, " + seed + ", " + m + ")", x.gain(7, seed, m), y.gain(7, seed, m));
            }
        }
        int sum = 0;
        for (int i = 0; i < 20; i++) {
            sum += x.gain(1, 140 + i, 1);
        }
        Check.due("deal by deal", x.gain(1, 140, 20), sum);
        Check.due("no customs, no gain: gain(0, 140, 20)", x.gain(0, 140, 20), 0);
        Check.due("seeds wrap", x.gain(1, MOST, 2), x.gain(1, MOST, 1) + x.gain(1, LEAST, 1));
        Check.sentence("III", "PLAYERS of a CUSTOM's SIDE among CARDS that are no LIE of one of them, if there is one");
        String[] texts = {"pack 2 4; trump 1; custom a 2 lead says 1 == 2; custom b 0 lead says rank == high;",
            "pack 2 4; custom a 0 lead says rank == low; custom b 1 lead says rank == high; custom c 1 follow says rank == high;",
            "pack 4 2; trump 3; custom a 1 discard says suit == 3; custom b 0 discard says suit != 3;",
            "pack 1 8; trump 0; custom a 0 lead says rank == low; custom b 2 follow says rank == low;"};
        for (String text : texts) {
            x = Check.table(text);
            y = plain(text);
            for (int customs = 0; customs < 1 << x.count(4); customs++) {
                for (int seed = 0; seed < 100; seed += 20) {
                    Check.due(text + " gain(" + customs + ", " + seed + ", 20)", x.gain(customs, seed, 20), y.gain(customs, seed, 20));
                }
            }
        }
    }

    private static void gainRefused() {
        Check.sentence("Promise 35", "GAIN (m 1 .. 20); -1000: no such ones, not 8 CARDS.");
        SignalTable x = Check.table(THREE);
        Check.due("gain(7, 0, 1)", x.gain(7, 0, 1) > -1000, true);
        Check.due("gain(7, 0, 20)", x.gain(7, 0, 20) > -1000, true);
        for (int no : new int[] {0, 21, -1, LEAST, MOST}) {
            Check.due("gain(0, 0, " + no + ")", x.gain(0, 0, no), -1000);
        }
        for (int no : new int[] {8, -1, 15, LEAST, MOST}) {
            Check.due("gain(" + no + ", 0, 1)", x.gain(no, 0, 1), -1000);
        }
        for (int[] pack : new int[][] {{1, 4}, {2, 2}, {4, 1}, {3, 4}, {1, 12}, {4, 4}, {1, 16}}) {
            SignalTable other = Check.table("pack " + pack[0] + " " + pack[1] + ";");
            Check.due("gain(0, 0, 1) of " + pack[0] * pack[1], other.gain(0, 0, 1), -1000);
            Check.sentence("Promise 36", "-1000: no such ones, not 8 CARDS.");
            Check.due("bestSet(0, 1, 0) of " + pack[0] * pack[1], other.bestSet(0, 1, 0), -1000);
            Check.due("bestSet(0, 1, 1) of " + pack[0] * pack[1], other.bestSet(0, 1, 1), -1000);
        }
        for (int[] pack : new int[][] {{1, 8}, {2, 4}, {4, 2}}) {
            SignalTable other = Check.table("pack " + pack[0] + " " + pack[1] + ";");
            Check.due("gain(0, 0, 1) of 8", other.gain(0, 0, 1), 0);
            Check.due("bestSet(0, 1, 0) of 8", other.bestSet(0, 1, 0), 0);
        }
        for (int no : new int[] {0, 21, -1, LEAST, MOST}) {
            Check.due("bestSet(0, " + no + ", 0)", x.bestSet(0, no, 0), -1000);
            Check.due("bestSet(0, " + no + ", 1)", x.bestSet(0, no, 1), -1000);
        }
        for (int no : new int[] {-1, 2, 3, LEAST, MOST}) {
            Check.due("bestSet(0, 1, " + no + ")", x.bestSet(0, 1, no), -1000);
        }
        Check.due("bestSet(0, 20, 1)", x.bestSet(0, 20, 1) >= 0, true);
    }

    private static void best() {
        Check.sentence("III", "BEST: of all sets of CUSTOMS that with the greatest GAIN; of alike ones the least bits.");
        String[] texts = {THREE, "pack 2 4; trump 0; custom z 2 lead when 1 == 2 says 1 == 1; custom a 2 lead says rank == low and held == 2;"
                + "custom b 0 follow says rank == high;"};
        for (String text : texts) {
            SignalTable x = Check.table(text);
            for (int seed : new int[] {0, 20, 60, 80, 140, MOST}) {
                int least = 0;
                int most = 0;
                for (int set = 1; set < 8; set++) {
                    int gain = x.gain(set, seed, 20);
                    if (gain > most) {
                        most = gain;
                        least = set;
                    }
                }
                Check.due("bestSet(" + seed + ", 20, 0)", x.bestSet(seed, 20, 0), least);
                Check.due("bestSet(" + seed + ", 20, 1)", x.bestSet(seed, 20, 1), most);
            }
        }
        SignalTable x = Check.table("pack 2 4; custom a 2 lead when 1 == 2 says 1 == 2; custom b 2 lead when 1 == 2 says 1 == 2;");
        Check.due("all alike: bestSet(5, 20, 0)", x.bestSet(5, 20, 0), 0);
        Check.due("all alike: bestSet(5, 20, 1)", x.bestSet(5, 20, 1), 0);
        Check.due("z gains nothing, a does: bestSet(140, 20, 0)", Check.table(texts[1]).bestSet(140, 20, 0), 2);
    }

    private static void theGameStays() {
        Check.sentence("Promises 35, 36", "(The GAME stays.)");
        SignalTable x = Check.table(THREE);
        x.gain(7, 3, 20);
        x.bestSet(3, 20, 0);
        Check.due("nothing is dealt", x.count(5), -2);
        Check.due("turn()", x.turn(), -2);
        x.hands(bits(0, 4), bits(1, 5), bits(3, 7));
        x.lead(2);
        put(x, 3);
        String before = Seen.of(x);
        long mean = x.mean(2, 7);
        x.gain(7, 3, 20);
        x.bestSet(3, 5, 1);
        Check.due("what is seen", Seen.of(x), before);
        Check.due("mean(2, 7)", x.mean(2, 7), mean);
        Check.due("undo()", x.undo(), 0);
        Check.due("who leads", x.turn(), 2);
    }

    /** What was found out for one state is not taken for another. */
    private static void otherStates() {
        Check.sentence("Promise 14", "The last CARD is taken back");
        for (int seed = 0; seed < 20; seed++) {
            SignalTable x = Check.table(THREE);
            x.deal(seed);
            String none = asked(x);
            for (int i = 0; i < 2; i++) {
                int card = i == 0 ? Integer.numberOfTrailingZeros(x.may()) : 31 - Integer.numberOfLeadingZeros(x.may());
                put(x, card);
                SignalTable y = Check.table(THREE);
                y.deal(seed);
                y.play(card);
                Check.due("deal " + seed + ", behind " + card, asked(x), asked(y));
                x.undo();
                Check.due("deal " + seed + ", taken back", asked(x), none);
            }
            x.lead(1);
            SignalTable y = Check.table(THREE);
            y.deal(seed);
            y.lead(1);
            Check.due("deal " + seed + ", 1 leads", asked(x), asked(y));
            x.deal(seed + 1);
            y = Check.table(THREE);
            y.deal(seed + 1);
            Check.due("another deal", asked(x), asked(y));
        }
    }

    private static String asked(SignalTable x) {
        StringBuilder b = new StringBuilder("open " + x.open() + " line");
        for (int i = 0; i < 8; i++) {
            b.append(' ').append(x.line(i));
        }
        for (int customs = 0; customs < 8; customs += 7) {
            b.append("; choice ").append(x.choice(customs)).append(" safe ").append(x.safe(customs, 0)).append(' ')
                    .append(x.safe(customs, 1)).append(" loss ").append(x.loss(customs)).append(" worth ").append(x.worth(customs));
        }
        return b.append(" mean ").append(x.mean(Integer.numberOfTrailingZeros(x.may()), 0)).toString();
    }

    private static void otherTexts() {
        Check.sentence("Terms", "else it is in place of the one ahead");
        String[] texts = {THREE, THREE.replace("trump 0", "trump 1"), "pack 4 2;" + THREE.substring(9), THREE.replace("held == 2", "held < 3"),
            THREE.replace("rank == low", "rank == high"), "pack 1 8; custom a 2 lead says 1 == 2;" + THREE.substring(THREE.indexOf("custom b"))};
        SignalTable x = new SignalTable();
        for (String text : texts) {
            Check.tape(x, text);
            Check.due("read()", x.read(), 0);
            x.hands(bits(1, 3), bits(0, 7), bits(2, 6));
            SignalTable y = Check.table(text);
            y.hands(bits(1, 3), bits(0, 7), bits(2, 6));
            Check.due(text, asked(x), asked(y));
            for (int customs : new int[] {1, 7}) {
                Check.due(text + " gain(" + customs + ", 0, 20)", x.gain(customs, 0, 20), y.gain(customs, 0, 20));
                Check.due(text + " gain(" + customs + ", 60, 20)", x.gain(customs, 60, 20), y.gain(customs, 60, 20));
                Check.due(text + " gain(" + customs + ", 140, 20)", x.gain(customs, 140, 20), y.gain(customs, 140, 20));
            }
        }
    }

    private static void manyCalls() {
        Check.sentence("What it is", "An object is used for at most 512 calls after it has been made");
        SignalTable x = new SignalTable();
        for (int i = 0; i < 256; i++) {
            x.deal(i);
            int open = x.open();
            if (i % 16 == 15) {
                SignalTable y = new SignalTable();
                y.deal(i);
                Check.due("deal(" + i + "): open()", open, y.open());
            }
        }
    }
}
