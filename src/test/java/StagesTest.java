/**
 * Games by lots, from the deal to the last card: at each stage all that can be asked then, held against the plain one.
 * Promises 18 to 34.
 */
public final class StagesTest {
    private static final String[] TEXTS = {
        "pack 2 4; trump 0; custom a 2 lead says rank == low and held == 2; custom b 0 follow says rank == high;"
            + "custom c 2 discard when suit == 1 says voids == 1;",
        "pack 4 2; trump 3; custom a 1 lead says held == 1; custom b 2 discard says trumps == 0; custom c 2 follow says low == 0;",
        "pack 1 8; custom a 0 lead says rank == low; custom b 1 follow says high - low < 4; custom c 2 lead when trick == 1 says 1 == 2;",
        "pack 2 4; custom a 2 lead says voids == 0; custom b 2 follow when before < 0 says held == 1; custom c 2 discard says count 0 < 1;"};

    private SignalTable x;
    private Plain y;
    private String where;

    public static void main(String[] args) {
        for (int t = 0; t < TEXTS.length; t++) {
            for (int seed = 0; seed < 24; seed++) {
                new StagesTest().play(TEXTS[t], seed, 0, seed % 6 == 5);
            }
        }
        String[] twelve = {"pack 3 4; trump 1;", "pack 1 12;", "pack 2 6; trump 0;", "pack 4 3;"};
        for (int t = 0; t < twelve.length; t++) {
            for (int seed = 0; seed < 3; seed++) {
                new StagesTest().play(twelve[t] + TEXTS[t].substring(TEXTS[t].indexOf("custom")), seed, 4, seed == 2);
            }
        }
        String[] sixteen = {"pack 4 4; trump 2;", "pack 2 8;"};
        for (int t = 0; t < sixteen.length; t++) {
            new StagesTest().play(sixteen[t] + TEXTS[t].substring(TEXTS[t].indexOf("custom")), 1 + t, 8, false);
        }
        Check.end("StagesTest");
    }

    /** Ahead of so many cards nothing is asked, as the plain one takes long then. */
    private void play(String text, int seed, int from, boolean revoking) {
        x = Check.table(text);
        y = new Plain();
        y.tape.append(text);
        y.read();
        x.deal(seed);
        y.deal(seed);
        x.lead(seed % 4);
        y.lead(seed % 4);
        for (int i = 0; i <= y.cards(); i++) {
            where = text + " deal " + seed + ", " + i + " played: ";
            if (i >= from) {
                ask(i, seed);
            }
            int among = revoking && i % 3 == 1 && y.turnNow() >= 0 ? y.hand(y.turnNow(), false) : y.may();
            int card = among == 0 ? 0 : (seed + i) % 2 == 0 ? Integer.numberOfTrailingZeros(among)
                    : 31 - Integer.numberOfLeadingZeros(among);
            due("revoke(" + card + ")", x.revoke(card), y.revoke(card));
        }
    }

    private void due(String call, long got, long want) {
        Check.due(where + call, got, want);
    }

    private void ask(int i, int seed) {
        int customs = (seed + i) % 8;
        due("open()", x.open(), y.open());
        int lines = y.cards() - i;
        for (int k = lines > 8 ? lines - 8 : 0; k <= lines; k++) {
            due("line(" + k + ")", x.line(k), y.line(k));
        }
        int legal = y.may();
        for (int card = 0; card < y.cards(); card++) {
            if ((legal >> card & 1) == 1) {
                due("lies(" + card + ")", x.lies(card), y.lies(card));
                due("mean(" + card + ", " + customs + ")", x.mean(card, customs), y.mean(card, customs));
                int k = (card + i) % 5;
                due("spread(" + card + ", " + customs + ", " + k + ")", x.spread(card, customs, k), y.spread(card, customs, k));
            }
        }
        due("choice(" + customs + ")", x.choice(customs), y.choice(customs));
        due("safe(" + customs + ", 0)", x.safe(customs, 0), y.safe(customs, 0));
        due("safe(" + customs + ", 1)", x.safe(customs, 1), y.safe(customs, 1));
        due("loss(" + customs + ")", x.loss(customs), y.loss(customs));
        due("differs(" + customs + ")", x.differs(customs), y.differs(customs));
        due("worth(" + customs + ")", x.worth(customs), y.worth(customs));
        int player = (seed + i) % 4;
        int other = (player + 1 + seed % 3) % 4;
        int card = (3 * i + seed) % y.cards();
        due("canBe(" + player + ", " + customs + ")", x.canBe(player, customs), y.canBe(player, customs));
        due("sure(" + player + ", " + customs + ")", x.sure(player, customs), y.sure(player, customs));
        due("had(" + player + ", " + other + ", " + card + ", " + customs + ")", x.had(player, other, card, customs),
                y.had(player, other, card, customs));
        due("knows(" + player + ", " + other + ", " + card + ", " + customs + ")", x.knows(player, other, card, customs),
                y.knows(player, other, card, customs));
        for (int k = -1; k <= 1; k++) {
            due("after(" + player + ", " + (i + k) + ", " + customs + ")", x.after(player, i + k, customs),
                    y.after(player, i + k, customs));
            due("says(" + (i + k) + ", " + customs + ", 0)", x.says(i + k, customs, 0), y.says(i + k, customs, 0));
            due("says(" + (i + k) + ", " + customs + ", 1)", x.says(i + k, customs, 1), y.says(i + k, customs, 1));
        }
    }
}
