/** Promises 18 to 23: what customs say of cards, which deals can be, what is sure, what is known. */
public final class CustomsTest {
    private static final String TEXT = "pack 2 4; custom a 2 lead says held == 1; custom b 1 follow says rank == low;"
            + "custom c 0 discard when before < 0 says count 0 == 0; custom d 2 follow when before != 0 - 1 says high == 3;";

    public static void main(String[] args) {
        saying();
        canBe();
        sure();
        knowing();
        customsNarrow();
        revokesAndLies();
        sizes();
        Check.end("CustomsTest");
    }

    /** 0 has 0 4, 1 has 1 2, 2 has 5 6, 3 has 3 7. */
    private static SignalTable played(int... cards) {
        SignalTable x = Check.table(TEXT);
        x.hands(17, 6, 96);
        for (int card : cards) {
            Check.due("play(" + card + ")", x.play(card) > 0, true);
        }
        return x;
    }

    private static void saying() {
        SignalTable x = played(0, 1, 5, 3, 7, 4, 2, 6);
        int[] applies = {1, 2, 4, 2, 1, 0, 0, 8};
        for (int i = 0; i < 8; i++) {
            Check.due("says(" + i + ", 15, 0)", x.says(i, 15, 0), applies[i]);
            Check.due("says(" + i + ", 15, 1)", x.says(i, 15, 1), i == 7 ? 8 : 0);
            Check.due("says(" + i + ", 0, 0)", x.says(i, 0, 0), 0);
        }
        Check.due("says(7, 7, 0)", x.says(7, 7, 0), 0);
        Check.due("says(7, 7, 1)", x.says(7, 7, 1), 0);
        Check.due("says(0, 16, 0)", x.says(0, 16, 0), -1);
        Check.due("says(0, -1, 0)", x.says(0, -1, 0), -1);
        Check.due("says(8, 15, 0)", x.says(8, 15, 0), -1);
        Check.due("says(-1, 15, 0)", x.says(-1, 15, 0), -1);
        Check.due("says(0, 15, 2)", x.says(0, 15, 2), -1);
        Check.due("says(0, 15, -1)", x.says(0, 15, -1), -1);
        Check.due("says() with nothing dealt", new SignalTable().says(0, 0, 0), -1);
    }

    private static void canBe() {
        SignalTable x = played(0, 1, 5, 3);
        Check.due("canBe(1, 0)", x.canBe(1, 0), 6);
        Check.due("canBe(1, 15)", x.canBe(1, 15), 6);
        Check.due("after(1, 0, 0)", x.after(1, 0, 0), 90);
        Check.due("after(1, 0, 15)", x.after(1, 0, 15), 90);
        Check.due("after(1, 1, 0)", x.after(1, 1, 0), 30);
        Check.due("after(1, 1, 1): not 3 too", x.after(1, 1, 1), 24);
        Check.due("after(1, 1, 14)", x.after(1, 1, 14), 30);
        Check.due("after(1, 2, 1): his own says nothing to him", x.after(1, 2, 1), 24);
        Check.due("after(1, 3, 0): 2 has none of the suit", x.after(1, 3, 0), 9);
        Check.due("after(1, 3, 1)", x.after(1, 3, 1), 6);
        Check.due("after(1, 3, 4)", x.after(1, 3, 4), 9);
        Check.due("after(1, 4, 0)", x.after(1, 4, 0), 6);
        Check.due("after(0, 1, 15)", x.after(0, 1, 15), 90);
        Check.due("after(1, 5, 0)", x.after(1, 5, 0), -1);
        Check.due("after(1, -1, 0)", x.after(1, -1, 0), -1);
        Check.due("after(4, 0, 0)", x.after(4, 0, 0), -1);
        Check.due("after(1, 0, 16)", x.after(1, 0, 16), -1);
        Check.due("canBe(-1, 0)", x.canBe(-1, 0), -1);
        Check.due("canBe(4, 0)", x.canBe(4, 0), -1);
        Check.due("canBe(0, 16)", x.canBe(0, 16), -1);
        Check.due("canBe(0, -1)", x.canBe(0, -1), -1);
        Check.due("had(1, 0, 4, 0)", x.had(1, 0, 4, 0), 2);
        Check.due("had(1, 3, 3, 0)", x.had(1, 3, 3, 0), 6);
        Check.due("had(1, 2, 3, 0)", x.had(1, 2, 3, 0), 0);
        Check.due("had(1, 0, 1, 0): his own", x.had(1, 0, 1, 0), 0);
        Check.due("had(1, 1, 1, 0)", x.had(1, 1, 1, 0), -1);
        Check.due("had(1, 4, 1, 0)", x.had(1, 4, 1, 0), -1);
        Check.due("had(1, -1, 1, 0)", x.had(1, -1, 1, 0), -1);
        Check.due("had(4, 0, 1, 0)", x.had(4, 0, 1, 0), -1);
        Check.due("had(1, 0, 8, 0)", x.had(1, 0, 8, 0), -1);
        Check.due("had(1, 0, -1, 0)", x.had(1, 0, -1, 0), -1);
        Check.due("had(1, 0, 1, 16)", x.had(1, 0, 1, 16), -1);
        SignalTable y = Check.table(TEXT);
        Check.due("nothing dealt: canBe", y.canBe(0, 0), -1);
        Check.due("nothing dealt: after", y.after(0, 0, 0), -1);
        Check.due("nothing dealt: had", y.had(0, 1, 0, 0), -1);
        Check.due("nothing dealt: sure", y.sure(0, 0), -1);
        Check.due("nothing dealt: knows", y.knows(0, 1, 0, 0), -1);
    }

    private static void sure() {
        SignalTable x = played(0, 1, 5, 3);
        Check.due("sure(1, 0)", x.sure(1, 0), 41);
        Check.due("sure(0, 0)", x.sure(0, 0), 2 | 8 | 32);
        Check.due("sure(4, 0)", x.sure(4, 0), -1);
        Check.due("sure(-1, 0)", x.sure(-1, 0), -1);
        Check.due("sure(0, 16)", x.sure(0, 16), -1);
        x = played();
        Check.due("sure of nothing yet", x.sure(0, 0), 0);
        x = played(0, 1, 5, 3, 7, 4);
        Check.due("1 sees all but 6: 0 had 0 and 4, 3 had 3 and 7", x.sure(1, 0), 255 & ~6);
    }

    private static void knowing() {
        SignalTable x = played(0, 1, 5, 3);
        Check.due("knows(1, 3, 7, 0): only where he has it", x.knows(1, 3, 7, 0), 2);
        Check.due("knows(1, 3, 2, 0): 0 or 1 may have it", x.knows(1, 3, 2, 0), 0);
        Check.due("knows(1, 3, 1, 0): it was played", x.knows(1, 3, 1, 0), 6);
        Check.due("knows(1, 1, 1, 0)", x.knows(1, 1, 1, 0), -1);
        Check.due("knows(4, 1, 1, 0)", x.knows(4, 1, 1, 0), -1);
        Check.due("knows(1, -1, 1, 0)", x.knows(1, -1, 1, 0), -1);
        Check.due("knows(1, 2, 8, 0)", x.knows(1, 2, 8, 0), -1);
        Check.due("knows(1, 2, 1, 16)", x.knows(1, 2, 1, 16), -1);
        SignalTable y = Check.table("pack 1 4;");
        y.hands(1, 2, 4);
        y.play(0);
        y.play(1);
        Check.due("canBe(3, 0)", y.canBe(3, 0), 1);
        Check.due("sure(3, 0)", y.sure(3, 0), 7);
        Check.due("knows(3, 2, 3, 0)", y.knows(3, 2, 3, 0), 1);
        Check.due("knows(3, 0, 3, 0)", y.knows(3, 0, 3, 0), 0);
        Check.due("knows(3, 0, 1, 0)", y.knows(3, 0, 1, 0), 1);
        Check.due("knows(3, 0, 0, 0): his own", y.knows(3, 0, 0, 0), 1);
    }

    /** A lead of the least of two says what the other one is. */
    private static void customsNarrow() {
        SignalTable x = Check.table("pack 1 8; custom a 0 lead says high - low == 1 and rank == low;");
        x.hands(3, 12, 48);
        x.play(0);
        Check.due("canBe(1, 0)", x.canBe(1, 0), 30);
        Check.due("canBe(1, 1): 0 had 1 too", x.canBe(1, 1), 6);
        Check.due("sure(1, 0)", x.sure(1, 0), 1);
        Check.due("sure(1, 1)", x.sure(1, 1), 3);
        Check.due("had(1, 0, 1, 1)", x.had(1, 0, 1, 1), 6);
        Check.due("had(1, 0, 1, 0)", x.had(1, 0, 1, 0), 6);
        Check.due("knows(1, 3, 1, 0): he has it in 12 of 30", x.knows(1, 3, 1, 0), 12);
        Check.due("knows(1, 3, 1, 1)", x.knows(1, 3, 1, 1), 6);
        Check.due("knows(3, 0, 1, 0): he has it in 6, else is not sure", x.knows(3, 0, 1, 0), 6);
    }

    private static void revokesAndLies() {
        SignalTable x = played(0);
        x.revoke(2);
        Check.due("1 follows with 2, a lie by b", x.says(1, 15, 1), 2);
        Check.due("canBe(0, 0)", x.canBe(0, 0), 30);
        Check.due("canBe(0, 2): 1 can't have had 1", x.canBe(0, 2), 24);
        Check.due("sure(0, 2)", x.sure(0, 2), 4);
        x = Check.table("pack 2 4;");
        x.hands(17, 34, 136);
        x.play(0);
        x.revoke(5);
        Check.due("by what is seen 1 has none of the suit", x.had(0, 1, 1, 0), 0);
        Check.due("so many can be", x.canBe(0, 0), 2 * 6);
        x.play(3);
        x.play(2);
        Check.due("1 may have 6 or 7", x.canBe(0, 0), 4);
        x.play(7);
        Check.due("1 must have 6", x.canBe(0, 0), 1);
        Check.due("sure of what is not so", x.had(0, 1, 6, 0), 1);
        Check.due("sure(0, 0)", x.sure(0, 0), 255 & ~17);
        x.play(6);
        Check.due("nothing can be, although it does not show yet", x.canBe(0, 0), 0);
        x.play(4);
        x.play(1);
        Check.due("shown: nothing can be", x.canBe(0, 0), 0);
        Check.due("shown: sure of nothing", x.sure(0, 0), 0);
        Check.due("shown: had", x.had(0, 1, 5, 0), 0);
        Check.due("shown: knows", x.knows(0, 2, 5, 0), 0);
        Check.due("himself he knows better", x.canBe(1, 0), 1);
    }

    private static void sizes() {
        SignalTable x = new SignalTable();
        x.deal(7);
        Check.due("canBe of 16", x.canBe(2, 0), 34650);
        Check.due("had of 16", x.had(2, 0, Integer.numberOfTrailingZeros(x.hand(1, true)), 0), 11550);
        Check.due("knows with 4 in a hand", x.knows(0, 1, 0, 0), -2);
        for (int i = 0; i < 3; i++) {
            x.play(Integer.numberOfTrailingZeros(x.may()));
        }
        Check.due("knows with 4 in one hand", x.knows(0, 1, 0, 0), -2);
        x.play(Integer.numberOfTrailingZeros(x.may()));
        Check.due("knows with 3 in all", x.knows(0, 1, x.card(0, 0), 0), x.canBe(0, 0));
        x = Check.table("pack 3 4;");
        x.deal(7);
        Check.due("canBe of 12", x.canBe(3, 0), 1680);
        Check.due("knows of 12", x.knows(3, 1, Integer.numberOfTrailingZeros(x.hand(0, true)), 0), 560);
    }
}
