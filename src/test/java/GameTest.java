/** Promises 6 to 17 and 24: deals, hands, tricks, following, revokes, undoing. */
public final class GameTest {
    public static void main(String[] args) {
        deals();
        hands();
        leading();
        nothingDealt();
        aGame();
        trumps();
        revokes();
        undoing();
        Check.end("GameTest");
    }

    /** Worked out apart from this program, step by step as the document tells LOTS. */
    private static void deals() {
        dealt("pack 1 4;", 0, 1, 8, 2, 4);
        dealt("pack 2 2;", -1, 2, 8, 1, 4);
        dealt("pack 2 4;", 1, 48, 9, 130, 68);
        dealt("pack 4 2;", Integer.MAX_VALUE, 96, 24, 130, 5);
        dealt("pack 3 4;", 12345, 1792, 11, 2180, 112);
        dealt("", 0, 2098, 32844, 29696, 897);
        dealt("pack 1 16;", -1, 37408, 18438, 456, 9233);
    }

    private static void dealt(String text, int seed, int... due) {
        SignalTable x = Check.table(text);
        Check.due("deal(" + seed + ")", x.deal(seed), true);
        for (int p = 0; p < 4; p++) {
            Check.due(text + " deal(" + seed + "): hand(" + p + ", true)", x.hand(p, true), due[p]);
            Check.due(text + " deal(" + seed + "): hand(" + p + ", false)", x.hand(p, false), due[p]);
        }
        Check.due("turn()", x.turn(), 0);
        Check.due("count(5)", x.count(5), 0);
    }

    private static void hands() {
        SignalTable x = Check.table("pack 2 4;");
        Check.due("two cards each", x.hands(3, 12, 48), true);
        Check.due("all others to 3", x.hand(3, true), 192);
        Check.due("one card", x.hands(1, 12, 48), false);
        Check.due("three cards", x.hands(3, 12, 112), false);
        Check.due("a card twice", x.hands(3, 6, 48), false);
        Check.due("one twice, a and c", x.hands(3, 12, 33), false);
        Check.due("no such card", x.hands(3, 12, 16 | 256), false);
        Check.due("no such card", x.hands(1 | 1 << 31, 12, 48), false);
        Check.due("no hands", x.hands(0, 0, 0), false);
        Check.due("nothing happened", x.hand(0, true), 3);
        x.play(0);
        Check.due("a wrong one leaves the game", x.hands(3, 3, 3), false);
        Check.due("count(5)", x.count(5), 1);
        Check.due("a new game", x.hands(192, 12, 48), true);
        Check.due("count(5)", x.count(5), 0);
        Check.due("hand(3, false)", x.hand(3, false), 3);
    }

    private static void leading() {
        SignalTable x = Check.table("pack 1 4;");
        Check.due("lead ahead of a deal", x.lead(0), false);
        x.hands(1, 2, 4);
        Check.due("lead(4)", x.lead(4), false);
        Check.due("lead(-1)", x.lead(-1), false);
        Check.due("turn()", x.turn(), 0);
        Check.due("lead(2)", x.lead(2), true);
        Check.due("turn()", x.turn(), 2);
        Check.due("play(2)", x.play(2), 1);
        Check.due("lead behind a card", x.lead(1), false);
        Check.due("turn()", x.turn(), 3);
        x.undo();
        Check.due("turn() taken back", x.turn(), 2);
        Check.due("lead(1) again", x.lead(1), true);
        x.hands(1, 2, 4);
        Check.due("a new game: 0 leads", x.turn(), 0);
        x.lead(3);
        x.deal(4);
        Check.due("a new deal: 0 leads", x.turn(), 0);
    }

    private static void nothingDealt() {
        SignalTable x = new SignalTable();
        Check.due("hand", x.hand(0, false), -1);
        Check.due("turn", x.turn(), -2);
        Check.due("may", x.may(), 0);
        Check.due("play", x.play(0), -1);
        Check.due("revoke", x.revoke(0), -1);
        Check.due("undo", x.undo(), -1);
        Check.due("card", x.card(0, 0), -1);
        Check.due("tricks(0)", x.tricks(0), 0);
        Check.due("tricks(1)", x.tricks(1), 0);
        Check.due("winner(0)", x.winner(0), -1);
        Check.due("revokes(0)", x.revokes(0), 0);
        Check.due("revokes(1)", x.revokes(1), 0);
        Check.due("revokes(2)", x.revokes(2), -2);
        Check.due("revokes(3)", x.revokes(3), -1);
        Check.due("revokes(-1)", x.revokes(-1), -1);
    }

    /** Suits of four; 0 has 0 1 4 8, 1 has 2 5 6 9, 2 has 3 7 10 12, 3 has 11 13 14 15. */
    private static void aGame() {
        SignalTable x = new SignalTable();
        Check.due("hands", x.hands(1 << 0 | 1 << 1 | 1 << 4 | 1 << 8, 1 << 2 | 1 << 5 | 1 << 6 | 1 << 9,
                1 << 3 | 1 << 7 | 1 << 10 | 1 << 12), true);
        Check.due("may() of a lead", x.may(), 0x113);
        Check.due("play(-1)", x.play(-1), -1);
        Check.due("play(16)", x.play(16), -1);
        Check.due("play(32)", x.play(32), -1);
        Check.due("another's card", x.play(2), -1);
        Check.due("play(1)", x.play(1), 1);
        Check.due("may(): must follow", x.may(), 4);
        Check.due("must follow", x.play(5), -2);
        Check.due("play(2)", x.play(2), 2);
        Check.due("play(3)", x.play(3), 3);
        Check.due("may() with none of the suit", x.may(), 1 << 11 | 7 << 13);
        Check.due("play(15)", x.play(15), 4);
        Check.due("winner(0)", x.winner(0), 2);
        Check.due("winner(1)", x.winner(1), -1);
        Check.due("winner(-1)", x.winner(-1), -1);
        Check.due("tricks(0)", x.tricks(0), 1);
        Check.due("tricks(1)", x.tricks(1), 0);
        Check.due("tricks(2)", x.tricks(2), -1);
        Check.due("tricks(-1)", x.tricks(-1), -1);
        Check.due("who won leads", x.turn(), 2);
        Check.due("hand(2, false)", x.hand(2, false), 1 << 7 | 1 << 10 | 1 << 12);
        Check.due("hand(2, true)", x.hand(2, true), 1 << 3 | 1 << 7 | 1 << 10 | 1 << 12);
        Check.due("hand(-1, true)", x.hand(-1, true), -1);
        Check.due("hand(4, false)", x.hand(4, false), -1);
        played(x, 12, 13, 0, 5);
        Check.due("winner(1): a discard never wins", x.winner(1), 3);
        played(x, 11, 8, 9, 10);
        Check.due("winner(2)", x.winner(2), 3);
        played(x, 14, 4, 6, 7);
        Check.due("winner(3)", x.winner(3), 3);
        Check.due("all is played: turn()", x.turn(), -2);
        Check.due("all is played: may()", x.may(), 0);
        Check.due("all is played: play(0)", x.play(0), -1);
        Check.due("all is played: revoke(0)", x.revoke(0), -1);
        Check.due("tricks(1)", x.tricks(1), 3);
        row(x, 0, 1, 0, 0, -1, 0, -2);
        row(x, 1, 2, 1, 1, -1, 0, -2);
        row(x, 3, 15, 3, 2, -1, 0, -2);
        row(x, 5, 13, 3, 1, 3, 0, -2);
        row(x, 6, 0, 0, 2, 1, 0, -2);
        row(x, 12, 14, 3, 0, 1, 0, -2);
        row(x, 14, 6, 1, 2, 1, 0, -2);
        row(x, 16, -1, -1, -1, -1, -1, -1);
        row(x, -1, -1, -1, -1, -1, -1, -1);
        Check.due("card(0, 6)", x.card(0, 6), -1);
        Check.due("card(0, -1)", x.card(0, -1), -1);
    }

    private static void played(SignalTable x, int... cards) {
        for (int card : cards) {
            int n = x.count(5);
            Check.due("play(" + card + ")", x.play(card), n + 1);
        }
    }

    private static void row(SignalTable x, int i, int... due) {
        for (int what = 0; what < 6; what++) {
            Check.due("card(" + i + ", " + what + ")", x.card(i, what), due[what]);
        }
    }

    private static void trumps() {
        SignalTable x = Check.table("pack 2 2; trump 1;");
        x.hands(2, 1, 4);
        played(x, 1, 0, 2, 3);
        Check.due("the highest trump wins", x.winner(0), 3);
        x = Check.table("pack 2 2;");
        x.hands(2, 1, 4);
        played(x, 1, 0, 2, 3);
        Check.due("without one the highest of the led suit", x.winner(0), 0);
        x = Check.table("pack 2 2; trump 0;");
        x.hands(2, 1, 4);
        x.lead(2);
        played(x, 2, 3, 1, 0);
        Check.due("a trump beats the led suit", x.winner(0), 0);
        x = Check.table("pack 2 2; trump 2;");
        Check.due("a suit that there is not is as none", x.count(3), -2);
        x.hands(2, 1, 4);
        x.lead(2);
        played(x, 2, 3, 1, 0);
        Check.due("as none", x.winner(0), 3);
    }

    private static void revokes() {
        SignalTable x = Check.table("pack 2 4;");
        x.hands(17, 34, 136);
        Check.due("revoke() of what is not in his hand", x.revoke(1), -1);
        Check.due("revoke() of a lead is a play", x.revoke(0), 1);
        Check.due("no revoke yet", x.revokes(0), 0);
        Check.due("revoke(5)", x.revoke(5), 2);
        Check.due("revoke(-1)", x.revoke(-1), -1);
        Check.due("revoke(8)", x.revoke(8), -1);
        Check.due("revoke(3), which follows", x.revoke(3), 3);
        played(x, 2);
        row(x, 1, 5, 1, 2, -1, 1, -2);
        row(x, 2, 3, 2, 1, -1, 0, -2);
        Check.due("revokes(0)", x.revokes(0), 1);
        Check.due("revokes(1)", x.revokes(1), 0);
        Check.due("revokes(2)", x.revokes(2), -2);
        played(x, 7, 6, 4);
        Check.due("he has but the card that shows it", x.may(), 2);
        played(x, 1);
        row(x, 1, 5, 1, 2, -1, 1, 7);
        row(x, 7, 1, 1, 2, -1, 0, -2);
        Check.due("revokes(0)", x.revokes(0), 1);
        Check.due("revokes(1)", x.revokes(1), 1);
        Check.due("revokes(2)", x.revokes(2), 1);
        x.undo();
        Check.due("taken back it does not show", x.card(1, 5), -2);
        Check.due("revokes(2) taken back", x.revokes(2), -2);
        while (x.undo() > 1) {
            Check.due("turn() on the way back", x.turn() >= 0, true);
        }
        Check.due("count(5)", x.count(5), 1);
        Check.due("revokes(0) taken back", x.revokes(0), 0);
        Check.due("may() again", x.may(), 2);
    }

    private static void undoing() {
        SignalTable x = Check.table("pack 1 8;");
        x.hands(3, 12, 48);
        played(x, 1, 2, 5, 7, 6);
        Check.due("undo()", x.undo(), 4);
        Check.due("turn()", x.turn(), 3);
        Check.due("undo()", x.undo(), 3);
        Check.due("tricks(1)", x.tricks(1), 0);
        Check.due("winner(0)", x.winner(0), -1);
        Check.due("turn()", x.turn(), 3);
        Check.due("hand(3, false)", x.hand(3, false), 192);
        played(x, 6);
        Check.due("another card, another leader", x.winner(0), 3);
        for (int n = 3; n >= 0; n--) {
            Check.due("undo()", x.undo(), n);
        }
        Check.due("undo() of nothing", x.undo(), -1);
        Check.due("all hands are whole", x.hand(0, false) | x.hand(1, false) | x.hand(2, false), 63);
    }
}
