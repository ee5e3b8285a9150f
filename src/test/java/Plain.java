import java.util.ArrayList;
import java.util.Arrays;
import java.util.HashMap;
import java.util.HashSet;
import java.util.List;
import java.util.Map;
import java.util.Set;

/**
 * The document once more, written as directly as it can be and without a thought for speed, so that the class can
 * be held against it. It shares no code with the class.
 */
final class Plain {
    static final Set<String> WORDS = new HashSet<>(Arrays.asList("pack", "trump", "custom", "lead", "follow", "discard",
            "when", "says", "or", "and", "not", "count", "suit", "rank", "led", "trick", "before", "held", "high",
            "low", "voids", "trumps"));
    static final List<String> VARS = Arrays.asList("suit", "rank", "led", "trick", "before", "held", "high", "low",
            "voids", "trumps");

    // ---- texts

    static final class Token {
        final String text;
        final char kind; // n name, i int, s sign or word, b bad, e end
        final int place;

        Token(String text, char kind, int place) {
            this.text = text;
            this.kind = kind;
            this.place = place;
        }
    }

    static final class Fault extends Exception {
        private static final long serialVersionUID = 1L;
        final int number;
        final int place;

        Fault(int number, int place) {
            this.number = number;
            this.place = place;
        }
    }

    static final class ByZero extends RuntimeException {
        private static final long serialVersionUID = 1L;
    }

    interface Cond {
        boolean holds(int[] vars);
    }

    interface Expr {
        int value(int[] vars);
    }

    static final class Custom {
        String name;
        int side;
        int kind;
        Cond when;
        Cond says;
    }

    static List<Token> cut(String text) {
        List<Token> tokens = new ArrayList<>();
        int i = 0;
        while (i < text.length()) {
            char c = text.charAt(i);
            if (c == 9 || c == 10 || c == 13 || c == 32) {
                i++;
                continue;
            }
            int j = i;
            while (j < text.length() && text.charAt(j) >= 'a' && text.charAt(j) <= 'z') {
                j++;
            }
            if (j > i) {
                String word = text.substring(i, j);
                char kind = WORDS.contains(word) ? 's' : word.length() > 8 ? 'b' : 'n';
                tokens.add(new Token(word, kind, i));
                i = j;
                continue;
            }
            while (j < text.length() && text.charAt(j) >= '0' && text.charAt(j) <= '9') {
                j++;
            }
            if (j > i) {
                tokens.add(new Token(text.substring(i, j), j - i > 4 ? 'b' : 'i', i));
                i = j;
                continue;
            }
            String two = text.substring(i, Math.min(i + 2, text.length()));
            if (two.equals("==") || two.equals("!=") || two.equals("<=")) {
                tokens.add(new Token(two, 's', i));
                i += 2;
            } else {
                tokens.add(new Token(text.substring(i, i + 1), ";+-*/<()".indexOf(c) >= 0 ? 's' : 'b', i));
                i++;
            }
        }
        tokens.add(new Token("", 'e', text.length()));
        return tokens;
    }

    final class Parser {
        final List<Token> tokens;
        int at = 0;
        int suits = 4;
        int ranks = 4;
        int trump = -1;
        final List<Custom> customs = new ArrayList<>();
        final List<Fault> later = new ArrayList<>();

        Parser(List<Token> tokens) {
            this.tokens = tokens;
        }

        Token now() {
            return tokens.get(at);
        }

        boolean is(String sign) {
            return now().kind == 's' && now().text.equals(sign);
        }

        Fault syntax() {
            return new Fault(1, now().place);
        }

        void need(String sign) throws Fault {
            if (!is(sign)) {
                throw syntax();
            }
            at++;
        }

        int number() throws Fault {
            if (now().kind != 'i') {
                throw syntax();
            }
            return Integer.parseInt(tokens.get(at++).text);
        }

        void text() throws Fault {
            while (now().kind != 'e') {
                if (is("pack")) {
                    at++;
                    int p1 = now().place;
                    suits = number();
                    int p2 = now().place;
                    ranks = number();
                    boolean a = suits >= 1 && suits <= 4;
                    boolean b = ranks >= 1 && ranks <= 16;
                    if (!a) {
                        later.add(new Fault(5, p1));
                    }
                    if (!b || a && (suits * ranks > 16 || suits * ranks % 4 != 0)) {
                        later.add(new Fault(5, p2));
                    }
                    need(";");
                } else if (is("trump")) {
                    at++;
                    int p = now().place;
                    trump = number();
                    if (trump > 3) {
                        later.add(new Fault(5, p));
                    }
                    need(";");
                } else if (is("custom")) {
                    custom();
                } else {
                    throw syntax();
                }
            }
        }

        void custom() throws Fault {
            at++;
            if (now().kind != 'n') {
                throw syntax();
            }
            Custom c = new Custom();
            c.name = now().text;
            for (Custom other : customs) {
                if (other.name.equals(c.name)) {
                    later.add(new Fault(3, now().place));
                }
            }
            at++;
            int p = now().place;
            c.side = number();
            if (c.side > 2) {
                later.add(new Fault(5, p));
            }
            c.kind = is("lead") ? 0 : is("follow") ? 1 : is("discard") ? 2 : -1;
            if (c.kind < 0) {
                throw syntax();
            }
            at++;
            c.when = v -> true;
            if (is("when")) {
                at++;
                c.when = cond();
            }
            need("says");
            c.says = cond();
            need(";");
            customs.add(c);
        }

        Cond cond() throws Fault {
            Cond left = all();
            while (is("or")) {
                at++;
                Cond a = left;
                Cond b = all();
                left = v -> a.holds(v) || b.holds(v);
            }
            return left;
        }

        Cond all() throws Fault {
            Cond left = lit();
            while (is("and")) {
                at++;
                Cond a = left;
                Cond b = lit();
                left = v -> a.holds(v) && b.holds(v);
            }
            return left;
        }

        Cond lit() throws Fault {
            if (is("not")) {
                at++;
                Cond a = lit();
                return v -> !a.holds(v);
            }
            Expr a = expr();
            String sign = now().kind == 's' ? now().text : "";
            if (!Arrays.asList("==", "!=", "<", "<=").contains(sign)) {
                throw syntax();
            }
            at++;
            Expr b = expr();
            return v -> {
                try {
                    int x = a.value(v);
                    int y = b.value(v);
                    return sign.equals("==") ? x == y : sign.equals("!=") ? x != y : sign.equals("<") ? x < y : x <= y;
                } catch (ByZero e) {
                    return false;
                }
            };
        }

        Expr expr() throws Fault {
            Expr left = part();
            while (is("+") || is("-")) {
                boolean plus = is("+");
                at++;
                Expr a = left;
                Expr b = part();
                left = v -> plus ? a.value(v) + b.value(v) : a.value(v) - b.value(v);
            }
            return left;
        }

        Expr part() throws Fault {
            Expr left = unit();
            while (is("*") || is("/")) {
                boolean times = is("*");
                at++;
                Expr a = left;
                Expr b = unit();
                left = v -> {
                    int x = a.value(v);
                    int y = b.value(v);
                    if (times) {
                        return x * y;
                    }
                    if (y == 0) {
                        throw new ByZero();
                    }
                    return x / y;
                };
            }
            return left;
        }

        Expr unit() throws Fault {
            if (now().kind == 'i') {
                int n = number();
                return v -> n;
            }
            if (is("count")) {
                at++;
                int p = now().place;
                int n = number();
                if (n > 3) {
                    later.add(new Fault(5, p));
                }
                return v -> v[10 + n];
            }
            if (is("(")) {
                at++;
                Expr inner = expr();
                need(")");
                return inner;
            }
            int i = now().kind == 's' ? VARS.indexOf(now().text) : -1;
            if (i < 0) {
                throw syntax();
            }
            at++;
            return v -> v[i];
        }
    }

    /** Faults of room among the tokens ahead of a place. */
    static List<Fault> roomFaults(List<Token> tokens, int before) {
        List<Fault> faults = new ArrayList<>();
        int customs = 0;
        int depth = 0;
        for (int i = 0; i < tokens.size(); i++) {
            Token t = tokens.get(i);
            if (t.kind == 'e' || t.place >= before) {
                break;
            }
            if (i == 400) {
                faults.add(new Fault(2, t.place));
            }
            if (t.text.equals("custom") && ++customs == 7) {
                faults.add(new Fault(2, t.place));
            }
            if (t.text.equals("(") && ++depth == 7) {
                faults.add(new Fault(2, t.place));
            }
            if (t.text.equals(")")) {
                depth--;
            }
        }
        return faults;
    }

    // ---- the state

    StringBuilder tape = new StringBuilder();
    int place = -1;
    int suits = 4;
    int ranks = 4;
    int trump = -1;
    List<Custom> customs = new ArrayList<>();
    State game;
    State[] slots = new State[2];
    List<State> books = new ArrayList<>();

    /** A game: hands and plays, and nothing that follows from them. */
    static final class State {
        int[] dealt = new int[4];
        int first = 0;
        List<Integer> cards = new ArrayList<>();

        State copy() {
            State s = new State();
            s.dealt = dealt.clone();
            s.first = first;
            s.cards = new ArrayList<>(cards);
            return s;
        }
    }

    int cards() {
        return suits * ranks;
    }

    int handSize() {
        return cards() / 4;
    }

    int suit(int card) {
        return card / ranks;
    }

    int rank(int card) {
        return card % ranks;
    }

    /** Who played each card of a game, and behind them who is to play (-2 at the end). */
    List<Integer> who(State s) {
        List<Integer> who = new ArrayList<>();
        int turn = s.first;
        for (int i = 0; i < s.cards.size(); i++) {
            who.add(turn);
            turn = i % 4 == 3 ? trickWinner(s, i / 4, who) : (turn + 1) % 4;
        }
        who.add(s.cards.size() == cards() ? -2 : turn);
        return who;
    }

    int trickWinner(State s, int trick, List<Integer> who) {
        int best = trick * 4;
        for (int i = trick * 4 + 1; i < trick * 4 + 4; i++) {
            int a = s.cards.get(i);
            int b = s.cards.get(best);
            if (suit(a) == suit(b) ? rank(a) > rank(b) : suit(a) == trump) {
                best = i;
            }
        }
        return who.get(best);
    }

    int ledAt(State s, int i) {
        return i % 4 == 0 ? -1 : suit(s.cards.get(i - i % 4));
    }

    int kindAt(State s, int i) {
        int led = ledAt(s, i);
        return led < 0 ? 0 : suit(s.cards.get(i)) == led ? 1 : 2;
    }

    int beforeAt(State s, int i) {
        List<Integer> who = who(s);
        for (int k = i - 1; k >= 0; k--) {
            if (who.get(k).equals(who.get(i)) && suit(s.cards.get(k)) == suit(s.cards.get(i))) {
                return rank(s.cards.get(k));
            }
        }
        return -1;
    }

    /** What a player who was dealt a hand had left ahead of the i-th card. */
    int aheadOf(State s, int i, int player, int dealt) {
        List<Integer> who = who(s);
        for (int k = 0; k < i; k++) {
            if (who.get(k) == player) {
                dealt &= ~(1 << s.cards.get(k));
            }
        }
        return dealt;
    }

    int suitCount(int hand, int suit) {
        int n = 0;
        for (int c = 0; c < cards(); c++) {
            n += (hand >> c & 1) != 0 && suit(c) == suit ? 1 : 0;
        }
        return n;
    }

    int[] vars(State s, int i, int hand, boolean inSays) {
        int card = s.cards.get(i);
        int[] v = new int[14];
        v[0] = suit(card);
        v[1] = rank(card);
        v[2] = ledAt(s, i);
        v[3] = i / 4;
        v[4] = beforeAt(s, i);
        if (inSays) {
            v[5] = suitCount(hand, suit(card));
            v[6] = -1;
            v[7] = 99;
            for (int c = 0; c < cards(); c++) {
                if ((hand >> c & 1) != 0 && suit(c) == suit(card)) {
                    v[6] = Math.max(v[6], rank(c));
                    v[7] = Math.min(v[7], rank(c));
                }
            }
            for (int t = 0; t < suits; t++) {
                v[8] += suitCount(hand, t) == 0 ? 1 : 0;
                v[10 + t] = suitCount(hand, t);
            }
            v[9] = trump < 0 ? 0 : suitCount(hand, trump);
        }
        return v;
    }

    boolean applies(Custom c, State s, int i) {
        int side = who(s).get(i) % 2;
        return c.kind == kindAt(s, i) && (c.side == 2 || c.side == side) && c.when.holds(vars(s, i, 0, false));
    }

    boolean isTrue(Custom c, State s, int i, int hand) {
        return c.says.holds(vars(s, i, hand, true));
    }

    int liesAt(State s, int i) {
        int player = who(s).get(i);
        int hand = aheadOf(s, i, player, s.dealt[player]);
        int bits = 0;
        for (int c = 0; c < customs.size(); c++) {
            if (applies(customs.get(c), s, i) && !isTrue(customs.get(c), s, i, hand)) {
                bits |= 1 << c;
            }
        }
        return bits;
    }

    int appliesAt(State s, int i) {
        int bits = 0;
        for (int c = 0; c < customs.size(); c++) {
            bits |= applies(customs.get(c), s, i) ? 1 << c : 0;
        }
        return bits;
    }

    boolean revokesAt(State s, int i) {
        int player = who(s).get(i);
        return kindAt(s, i) == 2 && suitCount(aheadOf(s, i, player, s.dealt[player]), ledAt(s, i)) > 0;
    }

    int showsAt(State s, int i) {
        if (revokesAt(s, i)) {
            List<Integer> who = who(s);
            for (int k = i + 1; k < s.cards.size(); k++) {
                if (who.get(k).equals(who.get(i)) && suit(s.cards.get(k)) == ledAt(s, i)) {
                    return k;
                }
            }
        }
        return -2;
    }

    int legal(State s) {
        int turn = who(s).get(s.cards.size());
        if (turn < 0) {
            return 0;
        }
        int hand = aheadOf(s, s.cards.size(), turn, s.dealt[turn]);
        int led = ledAt(s, s.cards.size());
        int follow = 0;
        for (int c = 0; c < cards(); c++) {
            if ((hand >> c & 1) != 0 && suit(c) == led) {
                follow |= 1 << c;
            }
        }
        return follow != 0 ? follow : hand;
    }

    // ---- what can be

    static List<Integer> subsets(int of, int size) {
        List<Integer> all = new ArrayList<>();
        for (int s = of;; s = (s - 1) & of) {
            if (Integer.bitCount(s) == size) {
                all.add(s);
            }
            if (s == 0) {
                return all;
            }
        }
    }

    /** Whether a hand fits what a player played; remembered, as many deals share a hand. */
    boolean fits(State s, int upTo, int bits, int player, int hand, Map<Integer, Boolean> known) {
        return known.computeIfAbsent(player << 16 | hand, k -> {
            List<Integer> who = who(s);
            for (int i = 0; i < upTo; i++) {
                if (who.get(i) != player) {
                    continue;
                }
                int then = aheadOf(s, i, player, hand);
                if ((hand >> s.cards.get(i) & 1) == 0) {
                    return false;
                }
                if (kindAt(s, i) == 2 && suitCount(then, ledAt(s, i)) > 0) {
                    return false;
                }
                for (int c = 0; c < customs.size(); c++) {
                    if ((bits >> c & 1) != 0 && applies(customs.get(c), s, i) && !isTrue(customs.get(c), s, i, then)) {
                        return false;
                    }
                }
            }
            return true;
        });
    }

    List<int[]> deals(State s, int player, int own, int upTo, int bits, Map<Integer, Boolean> known) {
        int[] others = new int[3];
        int n = 0;
        for (int p = 0; p < 4; p++) {
            if (p != player) {
                others[n++] = p;
            }
        }
        List<int[]> all = new ArrayList<>();
        int rest = (1 << cards()) - 1 & ~own;
        for (int a : subsets(rest, handSize())) {
            if (!fits(s, upTo, bits, others[0], a, known)) {
                continue;
            }
            for (int b : subsets(rest & ~a, handSize())) {
                int c = rest & ~a & ~b;
                if (fits(s, upTo, bits, others[1], b, known) && fits(s, upTo, bits, others[2], c, known)) {
                    int[] deal = new int[4];
                    deal[player] = own;
                    deal[others[0]] = a;
                    deal[others[1]] = b;
                    deal[others[2]] = c;
                    all.add(deal);
                }
            }
        }
        return all;
    }

    List<int[]> dealsFor(int player, int upTo, int bits) {
        return deals(game, player, game.dealt[player], upTo, bits, new HashMap<>());
    }

    int sureOf(List<int[]> deals, int player) {
        if (deals.isEmpty()) {
            return 0;
        }
        int sure = 0;
        for (int p = 0; p < 4; p++) {
            int common = -1;
            for (int[] deal : deals) {
                common &= deal[p];
            }
            sure |= p == player ? 0 : common;
        }
        return sure;
    }

    // ---- open play

    /** Side 0's further tricks; the hands now, the table's cards from its first on, who plays next. */
    int openValue(int[] now, List<Integer> table, int turn, Map<String, Integer> known) {
        if (table.size() == 4) {
            int best = 0;
            for (int i = 1; i < 4; i++) {
                int a = table.get(i);
                int b = table.get(best);
                if (suit(a) == suit(b) ? rank(a) > rank(b) : suit(a) == trump) {
                    best = i;
                }
            }
            int winner = (turn + best) % 4;
            return (winner % 2 == 0 ? 1 : 0) + openValue(now, new ArrayList<>(), winner, known);
        }
        if (now[turn] == 0) {
            return 0;
        }
        String key = Arrays.toString(now) + table + turn;
        Integer old = known.get(key);
        if (old != null) {
            return old;
        }
        int hand = now[turn];
        int best = -1;
        for (int c : playable(hand, table)) {
            now[turn] = hand & ~(1 << c);
            table.add(c);
            int v = openValue(now, new ArrayList<>(table), (turn + 1) % 4, known);
            table.remove(table.size() - 1);
            now[turn] = hand;
            if (best < 0 || (turn % 2 == 0 ? v > best : v < best)) {
                best = v;
            }
        }
        known.put(key, best);
        return best;
    }

    List<Integer> playable(int hand, List<Integer> table) {
        List<Integer> follow = new ArrayList<>();
        List<Integer> all = new ArrayList<>();
        for (int c = 0; c < cards(); c++) {
            if ((hand >> c & 1) != 0) {
                all.add(c);
                if (!table.isEmpty() && suit(c) == suit(table.get(0))) {
                    follow.add(c);
                }
            }
        }
        return follow.isEmpty() ? all : follow;
    }

    /** Side 0's further tricks from a game on, as if this had been the deal. */
    int openValue(State s, int[] deal, Map<String, Integer> known) {
        int n = s.cards.size();
        int[] now = new int[4];
        for (int p = 0; p < 4; p++) {
            now[p] = aheadOf(s, n, p, deal[p]);
        }
        int turn = who(s).get(n);
        if (n == cards()) {
            return 0;
        }
        return openValue(now, new ArrayList<>(s.cards.subList(n - n % 4, n)), turn, known);
    }

    /** The further tricks of the one to play's side, deal by deal, if he plays a card. */
    List<Integer> outcomes(State s, int card, int bits) {
        int n = s.cards.size();
        int turn = who(s).get(n);
        int left = handSize() - n / 4;
        State then = s.copy();
        then.cards.add(card);
        int won = 0;
        if (then.cards.size() % 4 == 0) {
            won = trickWinner(then, n / 4, who(then)) % 2 == 0 ? 1 : 0;
        }
        List<Integer> all = new ArrayList<>();
        for (int[] deal : deals(s, turn, s.dealt[turn], n, bits, new HashMap<>())) {
            int v = won + openValue(then, deal, new HashMap<>());
            all.add(turn % 2 == 0 ? v : left - v);
        }
        return all;
    }

    long meanOf(State s, int card, int bits) {
        long sum = 0;
        for (int v : outcomes(s, card, bits)) {
            sum += v;
        }
        return sum;
    }

    int choose(State s, int among, int bits) {
        int best = -1;
        long most = -1;
        for (int c = 0; c < cards(); c++) {
            if ((among >> c & 1) != 0) {
                long m = meanOf(s, c, bits);
                if (m > most) {
                    most = m;
                    best = c;
                }
            }
        }
        return best;
    }

    int lossBy(State s, int card) {
        int turn = who(s).get(s.cards.size());
        int open = openValue(s, s.dealt, new HashMap<>());
        State then = s.copy();
        then.cards.add(card);
        int won = then.cards.size() % 4 == 0 && trickWinner(then, s.cards.size() / 4, who(then)) % 2 == 0 ? 1 : 0;
        int v = won + openValue(then, then.dealt, new HashMap<>());
        return turn % 2 == 0 ? open - v : v - open;
    }

    int liesIf(State s, int card) {
        State then = s.copy();
        then.cards.add(card);
        return liesAt(then, s.cards.size());
    }

    static int lot(int n, int seed, int which) {
        int h = seed;
        for (int it : new int[] {20, which}) {
            h = (h ^ it) * 1103515245 + 12345;
            h = h ^ (h >>> 15);
        }
        return (h >>> 1) % n;
    }

    State byLots(int seed) {
        int[] row = new int[cards()];
        for (int i = 0; i < row.length; i++) {
            row[i] = i;
        }
        for (int i = row.length - 1; i >= 1; i--) {
            int k = lot(i + 1, seed, i);
            int t = row[i];
            row[i] = row[k];
            row[k] = t;
        }
        State s = new State();
        for (int i = 0; i < row.length; i++) {
            s.dealt[i / handSize()] |= 1 << row[i];
        }
        return s;
    }

    int selfPlayed(int bits, int seed, int m) {
        int sum = 0;
        for (int i = 0; i < m; i++) {
            State s = byLots(seed + i);
            while (who(s).get(s.cards.size()) >= 0) {
                int legal = legal(s);
                int honest = 0;
                for (int c = 0; c < cards(); c++) {
                    if ((legal >> c & 1) != 0 && (liesIf(s, c) & bits) == 0) {
                        honest |= 1 << c;
                    }
                }
                s.cards.add(choose(s, honest != 0 ? honest : legal, bits));
            }
            sum += won(s, 0);
        }
        return sum;
    }

    int won(State s, int side) {
        int won = 0;
        for (int t = 0; t < s.cards.size() / 4; t++) {
            won += trickWinner(s, t, who(s)) % 2 == side ? 1 : 0;
        }
        return won;
    }

    // ---- the face

    int turnNow() {
        return game == null ? -2 : who(game).get(game.cards.size());
    }

    boolean bits(int b) {
        return b >= 0 && b < 1 << customs.size();
    }

    static boolean in(int x, int least, int most) {
        return x >= least && x <= most;
    }

    int feed(int... words) {
        if (tape.length() + 20 > 2000) {
            return -1;
        }
        for (int w : words) {
            for (int i = 3; i >= 0; i--) {
                tape.append((char) (w >> 8 * i & 255));
            }
        }
        return tape.length();
    }

    int back(int n) {
        if (n < 0 || n > tape.length()) {
            return -1;
        }
        tape.setLength(tape.length() - n);
        return tape.length();
    }

    int read() {
        String text = tape.toString();
        tape.setLength(0);
        List<Token> tokens = cut(text);
        Parser p = new Parser(tokens);
        List<Fault> faults = new ArrayList<>();
        int before = Integer.MAX_VALUE;
        try {
            p.text();
        } catch (Fault f) {
            faults.add(f);
            before = f.place;
        }
        faults.addAll(roomFaults(tokens, before));
        if (faults.isEmpty()) {
            faults.addAll(p.later);
        }
        place = -1;
        if (!faults.isEmpty()) {
            faults.sort((x, y) -> x.place != y.place ? x.place - y.place : x.number - y.number);
            place = faults.get(0).place;
            return faults.get(0).number;
        }
        suits = p.suits;
        ranks = p.ranks;
        trump = p.trump < p.suits ? p.trump : -1;
        customs = p.customs;
        game = null;
        books.clear();
        slots = new State[2];
        return 0;
    }

    boolean deal(int seed) {
        game = byLots(seed);
        return true;
    }

    boolean hands(int a, int b, int c) {
        Set<Integer> seen = new HashSet<>();
        State s = new State();
        int[] given = {a, b, c};
        for (int p = 0; p < 3; p++) {
            if (Integer.bitCount(given[p]) != handSize()) {
                return false;
            }
            for (int i = 0; i < 32; i++) {
                if ((given[p] >> i & 1) != 0 && (i >= cards() || !seen.add(i))) {
                    return false;
                }
            }
            s.dealt[p] = given[p];
        }
        for (int i = 0; i < cards(); i++) {
            s.dealt[3] |= seen.contains(i) ? 0 : 1 << i;
        }
        game = s;
        return true;
    }

    boolean lead(int player) {
        if (game == null || !game.cards.isEmpty() || !in(player, 0, 3)) {
            return false;
        }
        game.first = player;
        return true;
    }

    int hand(int player, boolean all) {
        if (game == null || !in(player, 0, 3)) {
            return -1;
        }
        return all ? game.dealt[player] : aheadOf(game, game.cards.size(), player, game.dealt[player]);
    }

    int may() {
        return game == null ? 0 : legal(game);
    }

    boolean inHand(int card) {
        return turnNow() >= 0 && in(card, 0, cards() - 1) && (hand(turnNow(), false) >> card & 1) != 0;
    }

    int play(int card) {
        if (!inHand(card)) {
            return -1;
        }
        return (may() >> card & 1) == 0 ? -2 : revoke(card);
    }

    int revoke(int card) {
        if (!inHand(card)) {
            return -1;
        }
        game.cards.add(card);
        return game.cards.size();
    }

    int undo() {
        if (game == null || game.cards.isEmpty()) {
            return -1;
        }
        game.cards.remove(game.cards.size() - 1);
        return game.cards.size();
    }

    int played() {
        return game == null ? 0 : game.cards.size();
    }

    int card(int i, int what) {
        if (!in(i, 0, played() - 1) || !in(what, 0, 5)) {
            return -1;
        }
        switch (what) {
            case 0:
                return game.cards.get(i);
            case 1:
                return who(game).get(i);
            case 2:
                return kindAt(game, i);
            case 3:
                return beforeAt(game, i);
            case 4:
                return revokesAt(game, i) ? 1 : 0;
            default:
                return showsAt(game, i);
        }
    }

    int tricks(int side) {
        return !in(side, 0, 1) ? -1 : game == null ? 0 : won(game, side);
    }

    int winner(int i) {
        return !in(i, 0, played() / 4 - 1) ? -1 : trickWinner(game, i, who(game));
    }

    int says(int i, int b, int what) {
        if (!in(i, 0, played() - 1) || !bits(b) || !in(what, 0, 1)) {
            return -1;
        }
        return b & (what == 0 ? appliesAt(game, i) : liesAt(game, i));
    }

    int canBe(int player, int b) {
        return game == null || !in(player, 0, 3) || !bits(b) ? -1 : dealsFor(player, played(), b).size();
    }

    int after(int player, int i, int b) {
        return game == null || !in(player, 0, 3) || !bits(b) || !in(i, 0, played()) ? -1 : dealsFor(player, i, b).size();
    }

    int had(int player, int other, int card, int b) {
        if (game == null || !in(player, 0, 3) || !in(other, 0, 3) || player == other || !in(card, 0, cards() - 1)
                || !bits(b)) {
            return -1;
        }
        int n = 0;
        for (int[] deal : dealsFor(player, played(), b)) {
            n += deal[other] >> card & 1;
        }
        return n;
    }

    int sure(int player, int b) {
        return game == null || !in(player, 0, 3) || !bits(b) ? -1 : sureOf(dealsFor(player, played(), b), player);
    }

    int knows(int player, int other, int card, int b) {
        if (game == null || !in(player, 0, 3) || !in(other, 0, 3) || player == other || !in(card, 0, cards() - 1)
                || !bits(b)) {
            return -1;
        }
        for (int p = 0; p < 4; p++) {
            if (Integer.bitCount(hand(p, false)) > 3) {
                return -2;
            }
        }
        Map<Integer, Boolean> sureBy = new HashMap<>();
        Map<Integer, Boolean> known = new HashMap<>();
        int n = 0;
        for (int[] deal : dealsFor(player, played(), b)) {
            int own = deal[other];
            if (!sureBy.containsKey(own)) {
                int sure = sureOf(deals(game, other, own, played(), b, known), other);
                sureBy.put(own, ((sure | own) >> card & 1) != 0);
            }
            n += sureBy.get(own) ? 1 : 0;
        }
        return n;
    }

    int revokes(int what) {
        int broken = 0;
        int shown = 0;
        int first = 99;
        for (int i = 0; i < played(); i++) {
            broken += revokesAt(game, i) ? 1 : 0;
            if (showsAt(game, i) >= 0) {
                shown++;
                first = Math.min(first, showsAt(game, i) / 4);
            }
        }
        return what == 0 ? broken : what == 1 ? shown : what == 2 ? shown == 0 ? -2 : first : -1;
    }

    int open() {
        return game == null ? -2 : openValue(game, game.dealt, new HashMap<>());
    }

    int line(int i) {
        if (game == null || !in(i, 0, cards() - played() - 1)) {
            return -1;
        }
        State s = game.copy();
        for (int k = 0;; k++) {
            for (int c = 0; c < cards(); c++) {
                if ((legal(s) >> c & 1) != 0 && lossBy(s, c) == 0) {
                    if (k == i) {
                        return c;
                    }
                    s.cards.add(c);
                    break;
                }
            }
        }
    }

    int refusal(int b) {
        if (!bits(b) || turnNow() < 0) {
            return -1;
        }
        return Integer.bitCount(hand(turnNow(), false)) > 3 ? -2 : 0;
    }

    long mean(int card, int b) {
        if (refusal(b) != 0) {
            return refusal(b);
        }
        return !in(card, 0, cards() - 1) || (may() >> card & 1) == 0 ? -1 : meanOf(game, card, b);
    }

    int choice(int b) {
        return refusal(b) != 0 ? refusal(b) : choose(game, may(), b);
    }

    int spread(int card, int b, int k) {
        if (refusal(b) != 0) {
            return refusal(b);
        }
        if (!in(card, 0, cards() - 1) || (may() >> card & 1) == 0 || !in(k, 0, 4)) {
            return -1;
        }
        int n = 0;
        for (int v : outcomes(game, card, b)) {
            n += v == k ? 1 : 0;
        }
        return n;
    }

    int safe(int b, int what) {
        if (!in(what, 0, 1)) {
            return -1;
        }
        if (refusal(b) != 0) {
            return refusal(b);
        }
        int best = -1;
        int bestLeast = -1;
        long bestMean = -1;
        for (int c = 0; c < cards(); c++) {
            if ((may() >> c & 1) == 0) {
                continue;
            }
            List<Integer> all = outcomes(game, c, b);
            int least = 0;
            long sum = 0;
            for (int k = 0; k < all.size(); k++) {
                least = k == 0 ? all.get(k) : Math.min(least, all.get(k));
                sum += all.get(k);
            }
            if (least > bestLeast || least == bestLeast && sum > bestMean) {
                best = c;
                bestLeast = least;
                bestMean = sum;
            }
        }
        return what == 0 ? best : bestLeast;
    }

    int loss(int b) {
        return refusal(b) != 0 ? refusal(b) : lossBy(game, choose(game, may(), b));
    }

    int differs(int b) {
        if (refusal(b) != 0) {
            return refusal(b);
        }
        State s = game.copy();
        while (who(s).get(s.cards.size()) >= 0) {
            int c = choose(s, legal(s), b);
            if (lossBy(s, c) > 0) {
                return s.cards.size();
            }
            s.cards.add(c);
        }
        return -3;
    }

    int lies(int card) {
        return turnNow() < 0 || !in(card, 0, cards() - 1) || (may() >> card & 1) == 0 ? -1 : liesIf(game, card);
    }

    long worth(int b) {
        if (refusal(b) != 0) {
            return -1000000;
        }
        long lying = -1;
        long honest = -1;
        for (int c = 0; c < cards(); c++) {
            if ((may() >> c & 1) == 0) {
                continue;
            }
            if ((liesIf(game, c) & b) != 0) {
                lying = Math.max(lying, meanOf(game, c, b));
            } else {
                honest = Math.max(honest, meanOf(game, c, b));
            }
        }
        return lying < 0 || honest < 0 ? -1000000 : lying - honest;
    }

    int gain(int b, int seed, int m) {
        if (!bits(b) || !in(m, 1, 20) || cards() != 8) {
            return -1000;
        }
        return selfPlayed(b, seed, m) - selfPlayed(0, seed, m);
    }

    int bestSet(int seed, int m, int what) {
        if (!in(m, 1, 20) || cards() != 8 || !in(what, 0, 1)) {
            return -1000;
        }
        int best = 0;
        int most = 0;
        for (int b = 1; b < 1 << customs.size(); b++) {
            int g = gain(b, seed, m);
            if (g > most) {
                most = g;
                best = b;
            }
        }
        return what == 0 ? best : most;
    }

    int book() {
        if (game == null || played() != cards() || books.size() == 8) {
            return -1;
        }
        books.add(game.copy());
        return books.size() - 1;
    }

    int told(int custom, int n, int what) {
        if (!in(custom, 0, customs.size() - 1) || !in(n, 0, books.size()) || !in(what, 0, 1)) {
            return -1;
        }
        int times = 0;
        for (State s : books.subList(0, n)) {
            for (int i = 0; i < s.cards.size(); i++) {
                times += (what == 0 ? appliesAt(s, i) : liesAt(s, i)) >> custom & 1;
            }
        }
        return times;
    }

    int kept(int n) {
        if (!in(n, 0, books.size())) {
            return -1;
        }
        int bits = 0;
        for (int c = 0; c < customs.size(); c++) {
            bits |= told(c, n, 1) == 0 ? 1 << c : 0;
        }
        return bits;
    }

    /** For each hand and card of it whether a custom, of whichever side, applies to that first lead and is true. */
    interface Lead {
        boolean counts(boolean[] applies, boolean[] isTrue);
    }

    int leads(Lead lead) {
        int n = 0;
        for (int hand : subsets((1 << cards()) - 1, handSize())) {
            for (int c = 0; c < cards(); c++) {
                if ((hand >> c & 1) == 0) {
                    continue;
                }
                State s = new State();
                s.cards.add(c);
                boolean[] applies = new boolean[customs.size()];
                boolean[] isTrue = new boolean[customs.size()];
                for (int k = 0; k < applies.length; k++) {
                    Custom custom = customs.get(k);
                    applies[k] = custom.kind == 0 && custom.when.holds(vars(s, 0, 0, false));
                    isTrue[k] = applies[k] && custom.says.holds(vars(s, 0, hand, true));
                }
                n += lead.counts(applies, isTrue) ? 1 : 0;
            }
        }
        return n;
    }

    int openings(int custom, int what) {
        if (!in(custom, 0, customs.size() - 1) || !in(what, 0, 1)) {
            return -1;
        }
        return leads((a, t) -> what == 0 ? a[custom] : t[custom]);
    }

    int quarrel(int custom, int other) {
        if (!in(custom, 0, customs.size() - 1) || !in(other, 0, customs.size() - 1) || custom == other) {
            return -1;
        }
        return leads((a, t) -> a[custom] && a[other] && t[custom] != t[other]);
    }

    int gap() {
        return leads((a, t) -> {
            for (boolean b : a) {
                if (b) {
                    return false;
                }
            }
            return true;
        });
    }

    boolean hold(int slot) {
        if (!in(slot, 0, 1) || game == null) {
            return false;
        }
        slots[slot] = game.copy();
        return true;
    }

    boolean restore(int slot) {
        if (!in(slot, 0, 1) || slots[slot] == null) {
            return false;
        }
        game = slots[slot].copy();
        return true;
    }

    int count(int what) {
        switch (what) {
            case 0:
                return suits;
            case 1:
                return ranks;
            case 2:
                return handSize();
            case 3:
                return trump < 0 ? -2 : trump;
            case 4:
                return customs.size();
            case 5:
                return game == null ? -2 : played();
            case 6:
                return books.size();
            case 7:
                return tape.length();
            case 8:
                return (slots[0] == null ? 0 : 1) + (slots[1] == null ? 0 : 1);
            default:
                return in(what - 10, 0, customs.size() - 1)
                        ? 10 * customs.get(what - 10).side + customs.get(what - 10).kind : -1;
        }
    }
}
