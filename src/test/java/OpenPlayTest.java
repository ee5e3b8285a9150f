/** Promises 25 to 34: open play, the line, means, choices, spreads, safety, losses, lies and their worth. */
public final class OpenPlayTest {
    private static final String LOW = "pack 1 8; custom a 2 lead says rank == low;";
    private static final String THREE = "pack 2 4; trump 0; custom a 2 lead says rank == low and held == 2;"
            + "custom b 0 follow says rank == high; custom c 2 discard when suit == 1 says voids == 1;";

    public static void main(String[] args) {
        open();
        line();
        oneTrick();
        twoTricks();
        threeTricks();
        otherStates();
        losses();
        lies();
        worth();
        refusals();
        nothingCanBe();
        Check.end("OpenPlayTest");
    }

    /** 0 has 0 7, 1 has 1 2, 2 has 5 6, 3 has 3 4: all tricks for side 0. */
    private static SignalTable high() {
        SignalTable x = Check.table(LOW);
        x.hands(1 | 128, 2 | 4, 32 | 64);
        return x;
    }

    private static void open() {
        Check.due("nothing is dealt", new SignalTable().open(), -2);
        SignalTable x = high();
        Check.due("open()", x.open(), 2);
        x.play(7);
        x.play(1);
        x.play(6);
        x.play(3);
        Check.due("with 5 left to 2", x.open(), 1);
        x.undo();
        x.undo();
        x.play(5);
        x.play(3);
        Check.due("one on the way", x.open(), 1);
        Check.due("tricks(0)", x.tricks(0), 1);
        x.play(0);
        Check.due("the one on the table counts", x.open(), 1);
        x.play(2);
        x.play(6);
        Check.due("and is not won yet", x.open(), 1);
        x.play(4);
        Check.due("all is played", x.open(), 0);
        SignalTable y = new SignalTable();
        y.hands(0xf, 0xf0, 0xf00);
        Check.due("a suit each: who leads wins all", y.open(), 4);
        y.lead(3);
        Check.due("side 1 leads", y.open(), 0);
        y = Check.table("trump 1;");
        y.hands(0xf, 0xf0, 0xf00);
        Check.due("all trumps with 1", y.open(), 0);
        y = Check.table("trump 2;");
        y.hands(0xf, 0xf0, 0xf00);
        y.lead(1);
        Check.due("all trumps with 2", y.open(), 4);
        y = Check.table("pack 1 16;");
        y.hands(0x000f, 0x00f0, 0xf000);
        Check.due("2 has the four best", y.open(), 4);
        y.hands(0x000f, 0xf000, 0x00f0);
        Check.due("1 has the four best", y.open(), 0);
    }

    private static void line() {
        SignalTable x = high();
        int[] due = {0, 1, 5, 3, 6, 4, 7, 2};
        for (int i = 0; i < 8; i++) {
            Check.due("line(" + i + ")", x.line(i), due[i]);
        }
        Check.due("line(8)", x.line(8), -1);
        Check.due("line(-1)", x.line(-1), -1);
        x.play(7);
        int[] later = {1, 5, 3, 0, 2, 6, 4};
        for (int i = 0; i < 7; i++) {
            Check.due("behind 7: line(" + i + ")", x.line(i), later[i]);
        }
        Check.due("behind 7: line(7)", x.line(7), -1);
        x.undo();
        Check.due("taken back: line(2)", x.line(2), 5);
        Check.due("the game stays", x.count(5), 0);
        Check.due("nothing is dealt", new SignalTable().line(0), -1);
        for (int i = 0; i < 8; i++) {
            x.play(due[i]);
        }
        Check.due("all is played", x.line(0), -1);
    }

    private static void oneTrick() {
        SignalTable x = Check.table("pack 1 4;");
        x.hands(1, 2, 4);
        Check.due("mean(0, 0): 2 has 3 in two of six", x.mean(0, 0), 2);
        Check.due("spread(0, 0, 1)", x.spread(0, 0, 1), 2);
        Check.due("spread(0, 0, 0)", x.spread(0, 0, 0), 4);
        Check.due("spread(0, 0, 2)", x.spread(0, 0, 2), 0);
        Check.due("choice(0)", x.choice(0), 0);
        Check.due("safe(0, 0)", x.safe(0, 0), 0);
        Check.due("safe(0, 1)", x.safe(0, 1), 0);
        Check.due("loss(0)", x.loss(0), 0);
        Check.due("differs(0)", x.differs(0), -3);
        x.play(0);
        Check.due("mean(1, 0): 3 or he himself against 2", x.mean(1, 0), 1);
        x.play(1);
        Check.due("mean(2, 0)", x.mean(2, 0), 0);
        x.play(2);
        Check.due("mean(3, 0): side 1 wins", x.mean(3, 0), 1);
        Check.due("safe(0, 1)", x.safe(0, 1), 1);
    }

    /** By 0 and by 7 alike: 7 wins one, and 2 one more if he has 6, as he has in 30 of 90. */
    private static void twoTricks() {
        SignalTable x = high();
        for (int card = 0; card < 8; card += 7) {
            Check.due("mean(" + card + ", 0)", x.mean(card, 0), 120);
            int[] due = {0, 60, 30, 0, 0};
            for (int k = 0; k < 5; k++) {
                Check.due("spread(" + card + ", 0, " + k + ")", x.spread(card, 0, k), due[k]);
            }
        }
        Check.due("choice(0): of alike ones the least", x.choice(0), 0);
        Check.due("safe(0, 0)", x.safe(0, 0), 0);
        Check.due("safe(0, 1)", x.safe(0, 1), 1);
        Check.due("loss(0)", x.loss(0), 0);
        x.play(0);
        Check.due("mean(1, 0) of side 1", x.mean(1, 0), x.mean(2, 0));
        Check.due("the game stays", x.differs(1) >= -3 && x.count(5) == 1, true);
    }

    /** The numbers of the plain one in Plain.java; the card with the greatest mean is not the safest. */
    private static void threeTricks() {
        SignalTable x = Check.table("pack 3 4; trump 2;");
        x.hands(1408, 592, 2051);
        Check.due("choice(0)", x.choice(0), 8);
        Check.due("mean(8, 0)", x.mean(8, 0), 3540);
        Check.due("mean(7, 0)", x.mean(7, 0), 3394);
        Check.due("safe(0, 0)", x.safe(0, 0), 7);
        Check.due("safe(0, 1)", x.safe(0, 1), 1);
        int[] by8 = {100, 180, 840, 560, 0};
        int[] by7 = {0, 418, 810, 452, 0};
        for (int k = 0; k < 5; k++) {
            Check.due("spread(8, 0, " + k + ")", x.spread(8, 0, k), by8[k]);
            Check.due("spread(7, 0, " + k + ")", x.spread(7, 0, k), by7[k]);
        }
        SignalTable y = new SignalTable();
        y.hands(0x000f, 0x00f0, 0x0f00);
        for (int card = 0; card < 13; card += 4) {
            y.play(card);
        }
        Check.due("of 16, one trick gone: all three are his", y.mean(1, 0), 3 * y.canBe(0, 0));
        Check.due("spread(1, 0, 3)", y.spread(1, 0, 3), y.canBe(0, 0));
    }

    /** The same number of cards, but others: nothing that was found out for the one holds for the other. */
    private static void otherStates() {
        SignalTable x = Check.table(THREE);
        x.hands(10, 129, 68);
        x.play(1);
        Check.due("behind 1: open()", x.open(), 2);
        Check.due("behind 1: line(0)", x.line(0), 0);
        Check.due("behind 1: mean(0, 0)", x.mean(0, 0), behind(1, 0));
        x.undo();
        x.play(3);
        Check.due("behind 3: open()", x.open(), 2);
        Check.due("behind 3: mean(0, 0)", x.mean(0, 0), behind(3, 0));
        Check.due("they differ", behind(1, 0) != behind(3, 0), true);
        x.undo();
        Check.due("again: mean(1, 1)", x.mean(1, 1), 120);
        x.hands(10, 192, 5);
        Check.due("another deal, the same hand: mean(1, 1)", x.mean(1, 1), 120);
        x.lead(2);
        Check.due("another leader", x.mean(0, 0) != 120, true);
        x.hold(0);
        x.play(0);
        long mean = x.mean(x.may() == 0 ? 0 : Integer.numberOfTrailingZeros(x.may()), 0);
        x.restore(0);
        x.play(2);
        Check.due("restored", x.mean(Integer.numberOfTrailingZeros(x.may()), 0) != mean, true);
    }

    private static long behind(int lead, int card) {
        SignalTable x = Check.table(THREE);
        x.hands(10, 129, 68);
        x.play(lead);
        return x.mean(card, 0);
    }

    private static void losses() {
        SignalTable x = Check.table("pack 3 4; trump 2;");
        x.hands(704, 259, 56);
        Check.due("choice(0)", x.choice(0), 6);
        Check.due("loss(0)", x.loss(0), 1);
        Check.due("differs(0)", x.differs(0), 0);
        x.hands(515, 1072, 2184);
        Check.due("choice(0)", x.choice(0), 0);
        Check.due("open()", x.open(), 3);
        Check.due("loss(0)", x.loss(0), 1);
        x = Check.table(THREE);
        x.hands(36, 10, 129);
        Check.due("believing all it goes well at first", x.loss(3), 0);
        Check.due("differs(3)", x.differs(3), 1);
        Check.due("differs(0)", x.differs(0), -3);
        x.play(x.choice(3));
        Check.due("1 believes a lie", x.canBe(1, 3), 0);
        Check.due("so he plays his least", x.choice(3), 1);
        Check.due("which side 1 pays for", x.loss(3), 1);
        Check.due("without belief", x.choice(0), 3);
        Check.due("without belief", x.loss(0), 0);
        Check.due("differs(3) from here", x.differs(3), 1);
    }

    private static void lies() {
        SignalTable x = high();
        Check.due("lies(0)", x.lies(0), 0);
        Check.due("lies(7)", x.lies(7), 1);
        Check.due("lies(1): another's", x.lies(1), -1);
        Check.due("lies(8)", x.lies(8), -1);
        Check.due("lies(-1)", x.lies(-1), -1);
        x.play(7);
        Check.due("a custom of leads", x.lies(2), 0);
        Check.due("nobody is to play", new SignalTable().lies(0), -1);
        x = Check.table(THREE);
        x.hands(3, 12, 48);
        x.play(0);
        x.play(2);
        Check.due("a discard with voids 1", x.lies(4), 0);
        x = Check.table(THREE);
        x.hands(18, 36, 9);
        Check.due("lies(1): held is 1", x.lies(1), 1);
        x.play(1);
        Check.due("he must follow: lies(5)", x.lies(5), -1);
        Check.due("lies(2): b is of side 0", x.lies(2), 0);
        x.play(2);
        Check.due("lies(0): 3 would be high", x.lies(0), 2);
        Check.due("lies(3)", x.lies(3), 0);
    }

    private static void worth() {
        SignalTable x = high();
        Check.due("worth(1): both alike", x.worth(1), 0);
        Check.due("worth(0): nothing is believed, nothing a lie", x.worth(0), -1000000);
        Check.due("worth(2)", x.worth(2), -1000000);
        Check.due("worth(-1)", x.worth(-1), -1000000);
        x = Check.table(THREE);
        x.hands(10, 129, 68);
        Check.due("lies(1)", x.lies(1), 0);
        Check.due("lies(3)", x.lies(3), 1);
        Check.due("mean(1, 1)", x.mean(1, 1), 120);
        Check.due("mean(3, 1)", x.mean(3, 1), 168);
        Check.due("worth(1)", x.worth(1), 48);
        Check.due("worth(7)", x.worth(7), 48);
        Check.due("worth(6): its lie is not believed", x.worth(6), -1000000);
        x.play(1);
        Check.due("one card only", x.worth(7), -1000000);
        Check.due("nothing is dealt", Check.table(THREE).worth(7), -1000000);
        SignalTable y = Check.table("custom a 2 lead says rank == low;");
        y.deal(1);
        Check.due("more than 3 cards", y.worth(1), -1000000);
    }

    private static void refusals() {
        SignalTable x = Check.table("custom a 2 lead says rank == low;");
        Check.due("nothing is dealt: mean", x.mean(0, 0), -1);
        Check.due("nothing is dealt: choice", x.choice(0), -1);
        Check.due("nothing is dealt: spread", x.spread(0, 0, 0), -1);
        Check.due("nothing is dealt: safe", x.safe(0, 0), -1);
        Check.due("nothing is dealt: loss", x.loss(0), -1);
        Check.due("nothing is dealt: differs", x.differs(0), -1);
        x.hands(0xf, 0xf0, 0xf00);
        Check.due("4 cards: mean", x.mean(0, 1), -2);
        Check.due("4 cards: choice", x.choice(1), -2);
        Check.due("4 cards: spread", x.spread(0, 1, 0), -2);
        Check.due("4 cards: safe", x.safe(1, 0), -2);
        Check.due("4 cards: loss", x.loss(1), -2);
        Check.due("4 cards: differs", x.differs(1), -2);
        x.play(0);
        Check.due("4 cards with the next one too", x.choice(0), -2);
        x.play(4);
        x.play(8);
        x.play(12);
        Check.due("3 cards: choice", x.choice(0), 1);
        Check.due("mean of what was played", x.mean(0, 0), -1);
        Check.due("mean of another's", x.mean(5, 0), -1);
        Check.due("mean(-1, 0)", x.mean(-1, 0), -1);
        Check.due("mean(16, 0)", x.mean(16, 0), -1);
        Check.due("mean(33, 0)", x.mean(33, 0), -1);
        Check.due("mean(1, 2)", x.mean(1, 2), -1);
        Check.due("mean(1, -1)", x.mean(1, -1), -1);
        Check.due("choice(2)", x.choice(2), -1);
        Check.due("spread(1, 0, 5)", x.spread(1, 0, 5), -1);
        Check.due("spread(1, 0, -1)", x.spread(1, 0, -1), -1);
        Check.due("spread(0, 0, 1)", x.spread(0, 0, 1), -1);
        Check.due("spread(1, 2, 1)", x.spread(1, 2, 1), -1);
        Check.due("safe(0, 2)", x.safe(0, 2), -1);
        Check.due("safe(0, -1)", x.safe(0, -1), -1);
        Check.due("safe(2, 0)", x.safe(2, 0), -1);
        Check.due("loss(2)", x.loss(2), -1);
        Check.due("differs(2)", x.differs(2), -1);
        for (int i = 0; i < 12; i++) {
            x.play(Integer.numberOfTrailingZeros(x.may()));
        }
        Check.due("all is played: choice", x.choice(0), -1);
        Check.due("all is played: differs", x.differs(0), -1);
        Check.due("all is played: lies", x.lies(0), -1);
    }

    /** A lie that is believed leaves no deal: all means are 0. */
    private static void nothingCanBe() {
        SignalTable x = Check.table("pack 2 4; custom a 0 lead says 1 == 2;");
        x.hands(17, 34, 136);
        x.play(0);
        x.play(1);
        x.play(3);
        Check.due("canBe(3, 1)", x.canBe(3, 1), 0);
        Check.due("mean(2, 1)", x.mean(2, 1), 0);
        Check.due("spread(2, 1, 0)", x.spread(2, 1, 0), 0);
        x = Check.table("pack 2 4; custom a 0 lead says 1 == 2;");
        x.hands(3, 12, 48);
        x.play(1);
        Check.due("choice(1): the least", x.choice(1), 2);
        Check.due("safe(1, 0): the least", x.safe(1, 0), 2);
        Check.due("safe(1, 1): 0", x.safe(1, 1), 0);
        Check.due("worth(1): no lie of his", x.worth(1), -1000000);
    }
}
