/** All that can be seen of an object without changing it, in one text: two that are alike are in the same state. */
final class Seen {
    private Seen() {
    }

    /** Some 60 calls, and 7 more for each card that was played; what slots hold is not seen. */
    static String of(SignalTable x) {
        StringBuilder b = new StringBuilder("counts");
        for (int what = 0; what < 16; what++) {
            b.append(' ').append(x.count(what));
        }
        b.append("; place ").append(x.place());
        b.append(game(x));
        int books = x.count(6);
        for (int n = 0; n <= books; n++) {
            b.append("; kept ").append(x.kept(n));
        }
        for (int custom = 0; custom < x.count(4); custom++) {
            b.append("; told ").append(x.told(custom, books, 0)).append(' ').append(x.told(custom, books, 1));
        }
        return b.toString();
    }

    /** The game alone. */
    static String game(SignalTable x) {
        StringBuilder b = new StringBuilder("; turn " + x.turn() + " may " + x.may() + "; hands");
        for (int player = 0; player < 4; player++) {
            b.append(' ').append(x.hand(player, true)).append(' ').append(x.hand(player, false));
        }
        b.append("; tricks ").append(x.tricks(0)).append(' ').append(x.tricks(1)).append("; cards");
        int cards = Math.max(x.count(5), 0);
        for (int i = 0; i < cards; i++) {
            for (int what = 0; what < 6; what++) {
                b.append(' ').append(x.card(i, what));
            }
            b.append(',');
        }
        for (int i = 0; i < cards / 4; i++) {
            b.append(" won by ").append(x.winner(i));
        }
        b.append("; revokes ").append(x.revokes(0)).append(' ').append(x.revokes(1)).append(' ').append(x.revokes(2));
        return b.toString();
    }
}
