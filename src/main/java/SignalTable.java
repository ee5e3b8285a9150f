import java.util.Arrays;

/**
 * A table of four, two and two, who may not speak: a pack, deals, tricks, customs told as texts, what can still be,
 * and what play with open cards is worth. Every row is made in a constructor and used again, because nothing that a
 * run of calls makes is ever given back.
 */
public final class SignalTable {
    public static final int NONE = -1;

    /** The document's other refusal, and its word for a thing that is not there. */
    private static final int NOT_NOW = -2;
    private static final int NO_SUCH_CARD = -3;
    private static final int NO_GAIN = -1000;
    private static final int NO_WORTH = -1000000;

    private static final int PLAYERS = 4;
    private static final int MOST_CARDS = 16;
    private static final int MOST_IN_HAND = 4;
    private static final int MOST_CUSTOMS = 6;
    private static final int MOST_BOOKS = 8;
    private static final int MOST_BYTES = 2000;
    private static final int MOST_DEALS = 40000;
    private static final int SLOTS = 2;
    /** More cards in a hand than this are too many to weigh all deals. */
    private static final int FEW_CARDS = 3;
    private static final int GAIN_CARDS = 8;
    private static final int MOST_GAIN_DEALS = 20;

    private static final int LEAD = 0;
    private static final int FOLLOW = 1;
    private static final int DISCARD = 2;

    private final byte[] tape = new byte[MOST_BYTES];
    private int tapeSize;
    private final Laws laws = new Laws();
    private final Judge judge = new Judge(laws);
    private final Reader reader = new Reader(laws);
    private final Game game = new Game(laws, judge);
    private final Game trial = new Game(laws, judge);
    private final Game[] slots = new Game[SLOTS];
    private final Open solver = new Open(laws);
    private final Deals deals = new Deals(laws, judge);
    private final Weigher weigher = new Weigher(deals, solver);
    private final Gains gains = new Gains(trial, weigher);
    private final Books shelf = new Books();
    private final Openings firstLeads = new Openings(laws, judge);

    public SignalTable() {
        for (int i = 0; i < SLOTS; i++) {
            slots[i] = new Game(laws, judge);
        }
        laws.clear();
        laws.settle();
    }

    // ---- the text

    public int feed(int a, int b, int c, int d, int e) {
        if (tapeSize + 20 > MOST_BYTES) {
            return NONE;
        }
        append(a);
        append(b);
        append(c);
        append(d);
        append(e);
        return tapeSize;
    }

    private void append(int word) {
        for (int shift = 24; shift >= 0 && tapeSize < MOST_BYTES; shift -= 8) {
            tape[tapeSize] = (byte) (word >>> shift);
            tapeSize++;
        }
    }

    public int back(int n) {
        if (n < 0 || n > tapeSize) {
            return NONE;
        }
        tapeSize -= n;
        return tapeSize;
    }

    public int read() {
        reader.cut(tape, tapeSize);
        tapeSize = 0;
        int fault = reader.pass(false);
        if (fault == 0) {
            laws.clear();
            reader.pass(true);
            laws.settle();
            startAnew();
        }
        return fault;
    }

    /** Whatever was found out under the old text no longer holds. */
    private void startAnew() {
        game.clear();
        trial.clear();
        for (int i = 0; i < SLOTS; i++) {
            slots[i].clear();
        }
        shelf.clear();
        solver.forget();
        weigher.forget();
        gains.forget();
    }

    public int place() {
        return reader.place;
    }

    // ---- the game

    public boolean deal(int seed) {
        game.dealByLots(seed);
        return true;
    }

    public boolean hands(int a, int b, int c) {
        int all = laws.allCards();
        if (!isHand(a) || !isHand(b) || !isHand(c) || (a & b) != 0 || (a & c) != 0 || (b & c) != 0) {
            return false;
        }
        game.begin(a, b, c, all & ~(a | b | c));
        return true;
    }

    private boolean isHand(int cards) {
        return (cards & ~laws.allCards()) == 0 && Integer.bitCount(cards) == laws.handSize;
    }

    public boolean lead(int player) {
        if (!game.dealtOut || game.size > 0 || !isPlayer(player)) {
            return false;
        }
        game.leadBy(player);
        return true;
    }

    public int hand(int player, boolean all) {
        if (!game.dealtOut || !isPlayer(player)) {
            return NONE;
        }
        return all ? game.dealt[player] : game.now[player];
    }

    public int turn() {
        return game.turn;
    }

    public int may() {
        return game.legal();
    }

    public int play(int card) {
        if (!isInHand(card)) {
            return NONE;
        }
        if ((game.legal() >> card & 1) == 0) {
            return NOT_NOW;
        }
        game.put(card);
        return game.size;
    }

    public int revoke(int card) {
        if (!isInHand(card)) {
            return NONE;
        }
        game.put(card);
        return game.size;
    }

    public int undo() {
        if (game.size == 0) {
            return NONE;
        }
        game.takeBack();
        return game.size;
    }

    public int card(int i, int what) {
        if (i < 0 || i >= game.size) {
            return NONE;
        }
        switch (what) {
            case 0:
                return game.cards[i];
            case 1:
                return game.who[i];
            case 2:
                return game.kind[i];
            case 3:
                return game.before[i];
            case 4:
                return game.broken[i];
            case 5:
                return game.shownAt(i);
            default:
                return NONE;
        }
    }

    public int tricks(int side) {
        return side < 0 || side > 1 ? NONE : game.wonBy(side);
    }

    public int winner(int i) {
        return i < 0 || i >= game.size / PLAYERS ? NONE : game.winners[i];
    }

    public int revokes(int what) {
        if (what < 0 || what > 2) {
            return NONE;
        }
        int broken = 0;
        int shown = 0;
        int first = MOST_CARDS;
        for (int i = 0; i < game.size; i++) {
            broken += game.broken[i];
            int at = game.shownAt(i);
            if (at >= 0) {
                shown++;
                first = Math.min(first, at / PLAYERS);
            }
        }
        if (what == 0) {
            return broken;
        }
        if (what == 1) {
            return shown;
        }
        return shown == 0 ? NOT_NOW : first;
    }

    // ---- what the customs say, and what can be

    public int says(int i, int customs, int what) {
        if (i < 0 || i >= game.size || !areCustoms(customs) || what < 0 || what > 1) {
            return NONE;
        }
        return customs & (what == 0 ? game.applies[i] : game.lied[i]);
    }

    public int canBe(int player, int customs) {
        if (!canSee(player, customs)) {
            return NONE;
        }
        look(player, game.size, customs);
        return deals.number();
    }

    public int after(int player, int i, int customs) {
        if (!canSee(player, customs) || i < 0 || i > game.size) {
            return NONE;
        }
        look(player, i, customs);
        return deals.number();
    }

    /** Makes ready for all deals that can be for a player. */
    private void look(int player, int i, int customs) {
        deals.listFor(game, i, customs, game.dealt[player], player);
        deals.start(player, game.dealt[player]);
    }

    public int had(int player, int other, int card, int customs) {
        if (!canSee(player, customs) || !isPlayer(other) || other == player || !isCard(card)) {
            return NONE;
        }
        look(player, game.size, customs);
        return deals.numberWith(other, card);
    }

    public int sure(int player, int customs) {
        if (!canSee(player, customs)) {
            return NONE;
        }
        look(player, game.size, customs);
        return deals.common();
    }

    public int knows(int player, int other, int card, int customs) {
        if (!canSee(player, customs) || !isPlayer(other) || other == player || !isCard(card)) {
            return NONE;
        }
        for (int p = 0; p < PLAYERS; p++) {
            if (Integer.bitCount(game.now[p]) > FEW_CARDS) {
                return NOT_NOW;
            }
        }
        deals.listFor(game, game.size, customs, 0, NONE);
        return deals.numberKnown(player, game.dealt[player], other, card);
    }

    // ---- play with open cards

    public int open() {
        return game.dealtOut ? solver.valueOf(game) : NOT_NOW;
    }

    public int line(int i) {
        if (i < 0 || !game.dealtOut || i >= laws.cards - game.size) {
            return NONE;
        }
        return solver.lineCard(game, i);
    }

    public long mean(int card, int customs) {
        int refused = refusal(customs);
        if (refused != 0) {
            return refused;
        }
        if (!mayPut(card)) {
            return NONE;
        }
        weigher.weigh(game, customs, 1 << card);
        return weigher.sum(card);
    }

    public int choice(int customs) {
        int refused = refusal(customs);
        return refused != 0 ? refused : weigher.choose(game, customs, game.legal());
    }

    public int spread(int card, int customs, int k) {
        int refused = refusal(customs);
        if (refused != 0) {
            return refused;
        }
        if (!mayPut(card) || k < 0 || k > 4) {
            return NONE;
        }
        weigher.weigh(game, customs, 1 << card);
        return weigher.times(card, k);
    }

    public int safe(int customs, int what) {
        if (what < 0 || what > 1) {
            return NONE;
        }
        int refused = refusal(customs);
        if (refused != 0) {
            return refused;
        }
        int card = weigher.safest(game, customs, game.legal());
        return what == 0 ? card : weigher.least(card);
    }

    public int loss(int customs) {
        int refused = refusal(customs);
        if (refused != 0) {
            return refused;
        }
        return solver.lossBy(game, weigher.choose(game, customs, game.legal()));
    }

    public int differs(int customs) {
        int refused = refusal(customs);
        if (refused != 0) {
            return refused;
        }
        trial.copy(game);
        for (int k = 0; k < MOST_CARDS && trial.turn >= 0; k++) {
            int card = weigher.choose(trial, customs, trial.legal());
            if (solver.lossBy(trial, card) > 0) {
                return trial.size;
            }
            trial.put(card);
        }
        return NO_SUCH_CARD;
    }

    public int lies(int card) {
        return game.turn < 0 || !mayPut(card) ? NONE : game.liesOf(card);
    }

    public long worth(int customs) {
        if (refusal(customs) != 0) {
            return NO_WORTH;
        }
        int legal = game.legal();
        int honest = game.honest(legal, customs);
        int lying = legal & ~honest;
        if (honest == 0 || lying == 0) {
            return NO_WORTH;
        }
        weigher.weigh(game, customs, legal);
        return (long) weigher.sum(weigher.best(lying)) - weigher.sum(weigher.best(honest));
    }

    public int gain(int customs, int seed, int m) {
        if (!areCustoms(customs) || !canGain(m)) {
            return NO_GAIN;
        }
        return gains.total(customs, seed, m) - gains.total(0, seed, m);
    }

    public int bestSet(int seed, int m, int what) {
        if (what < 0 || what > 1 || !canGain(m)) {
            return NO_GAIN;
        }
        int without = gains.total(0, seed, m);
        int best = 0;
        int most = without;
        for (int set = 1; set < 1 << laws.customs; set++) {
            int total = gains.total(set, seed, m);
            if (total > most) {
                most = total;
                best = set;
            }
        }
        return what == 0 ? best : most - without;
    }

    private boolean canGain(int m) {
        return m >= 1 && m <= MOST_GAIN_DEALS && laws.cards == GAIN_CARDS;
    }

    // ---- books, openings, slots

    public int book() {
        if (!game.isOver() || shelf.size >= MOST_BOOKS) {
            return NONE;
        }
        return shelf.keep(game);
    }

    public int kept(int n) {
        if (n < 0 || n > shelf.size) {
            return NONE;
        }
        int kept = 0;
        for (int custom = 0; custom < laws.customs; custom++) {
            if (shelf.timesLied(custom, n) == 0) {
                kept |= 1 << custom;
            }
        }
        return kept;
    }

    public int told(int custom, int n, int what) {
        if (!isCustom(custom) || n < 0 || n > shelf.size || what < 0 || what > 1) {
            return NONE;
        }
        return what == 0 ? shelf.timesApplied(custom, n) : shelf.timesLied(custom, n);
    }

    public int openings(int custom, int what) {
        if (!isCustom(custom) || what < 0 || what > 1) {
            return NONE;
        }
        return what == 0 ? firstLeads.applied(custom) : firstLeads.held(custom);
    }

    public int quarrel(int custom, int other) {
        if (!isCustom(custom) || !isCustom(other) || custom == other) {
            return NONE;
        }
        return firstLeads.disputed(custom, other);
    }

    public int gap() {
        return firstLeads.untouched();
    }

    public boolean hold(int slot) {
        if (slot < 0 || slot >= SLOTS || !game.dealtOut) {
            return false;
        }
        slots[slot].copy(game);
        return true;
    }

    public boolean restore(int slot) {
        if (slot < 0 || slot >= SLOTS || !slots[slot].dealtOut) {
            return false;
        }
        game.copy(slots[slot]);
        return true;
    }

    public int count(int what) {
        switch (what) {
            case 0:
                return laws.suits;
            case 1:
                return laws.ranks;
            case 2:
                return laws.handSize;
            case 3:
                return laws.trump < 0 ? NOT_NOW : laws.trump;
            case 4:
                return laws.customs;
            case 5:
                return game.dealtOut ? game.size : NOT_NOW;
            case 6:
                return shelf.size;
            case 7:
                return tapeSize;
            case 8:
                return slotsInUse();
            default:
                return what >= 10 && isCustom(what - 10) ? 10 * laws.side[what - 10] + laws.kind[what - 10] : NONE;
        }
    }

    private int slotsInUse() {
        int used = 0;
        for (int i = 0; i < SLOTS; i++) {
            used += slots[i].dealtOut ? 1 : 0;
        }
        return used;
    }

    // ---- tests of what callers hand in

    private boolean isPlayer(int player) {
        return player >= 0 && player < PLAYERS;
    }

    private boolean isCard(int card) {
        return card >= 0 && card < laws.cards;
    }

    private boolean isCustom(int custom) {
        return custom >= 0 && custom < laws.customs;
    }

    private boolean areCustoms(int bits) {
        return bits >= 0 && bits < 1 << laws.customs;
    }

    private boolean canSee(int player, int customs) {
        return game.dealtOut && isPlayer(player) && areCustoms(customs);
    }

    private boolean isInHand(int card) {
        return game.turn >= 0 && isCard(card) && (game.now[game.turn] >> card & 1) != 0;
    }

    private boolean mayPut(int card) {
        return isCard(card) && (game.legal() >> card & 1) != 0;
    }

    /** Why nothing can be weighed now; 0 if it can. */
    private int refusal(int customs) {
        if (!areCustoms(customs) || game.turn < 0) {
            return NONE;
        }
        return Integer.bitCount(game.now[game.turn]) > FEW_CARDS ? NOT_NOW : 0;
    }

    /** Cuts a tape into tokens. No more are cut than the first that there is no room for. */
    private static final class Tokens {
        static final int END = 0;
        static final int BAD = 1;
        static final int NAME = 2;
        static final int INT = 3;
        static final int SEMICOLON = 4;
        static final int PLUS = 5;
        static final int MINUS = 6;
        static final int TIMES = 7;
        static final int OVER = 8;
        static final int EQUAL = 9;
        static final int UNEQUAL = 10;
        static final int LESS = 11;
        static final int AT_MOST = 12;
        static final int OPENING = 13;
        static final int CLOSING = 14;
        static final int PACK = 15;
        static final int TRUMP = 16;
        static final int CUSTOM = 17;
        static final int LEADS = 18;
        static final int WHEN = 21;
        static final int SAYS = 22;
        static final int OR = 23;
        static final int AND = 24;
        static final int NOT = 25;
        static final int COUNT = 26;
        static final int SUIT = 27;
        static final int TRUMPS = 36;

        static final int ROOM = 400;
        private static final int LONGEST_NAME = 8;
        private static final int LONGEST_INT = 4;
        /** In the order of the numbers from PACK on. */
        private static final String WORDS =
                "pack trump custom lead follow discard when says or and not count suit rank led trick before held high low voids trumps ";

        final int[] type = new int[ROOM + 2];
        final int[] place = new int[ROOM + 2];
        /** An INT's number; a NAME's letters, five bits each. */
        final long[] value = new long[ROOM + 2];
        private final long[] words = new long[TRUMPS - PACK + 1];
        private int size;

        Tokens() {
            int word = 0;
            long letters = 0;
            for (int i = 0; i < WORDS.length(); i++) {
                char sign = WORDS.charAt(i);
                if (sign != ' ') {
                    letters = letters * 32 + (sign - 'a' + 1);
                } else if (word < words.length) {
                    words[word] = letters;
                    word++;
                    letters = 0;
                }
            }
        }

        void cut(byte[] tape, int length) {
            size = 0;
            int at = 0;
            for (int k = 0; k < MOST_BYTES && at < length && at < tape.length && size <= ROOM; k++) {
                int sign = tape[at] & 255;
                if (sign == 9 || sign == 10 || sign == 13 || sign == 32) {
                    at++;
                } else if (isLetter(sign)) {
                    at = cutName(tape, length, at);
                } else if (isDigit(sign)) {
                    at = cutInt(tape, length, at);
                } else {
                    at = cutSign(tape, length, at);
                }
            }
            note(END, 0, length);
        }

        private static boolean isLetter(int sign) {
            return sign >= 'a' && sign <= 'z';
        }

        private static boolean isDigit(int sign) {
            return sign >= '0' && sign <= '9';
        }

        private void note(int kind, long number, int at) {
            if (size < type.length) {
                type[size] = kind;
                value[size] = number;
                place[size] = at;
                size++;
            }
        }

        /** Answers where to go on; behind what is no token nothing matters any more. */
        private int cutName(byte[] tape, int length, int at) {
            long letters = 0;
            int end = at;
            while (end < length && end < tape.length && isLetter(tape[end] & 255)) {
                if (end - at < LONGEST_NAME) {
                    letters = letters * 32 + ((tape[end] & 255) - 'a' + 1);
                }
                end++;
            }
            if (end - at > LONGEST_NAME) {
                note(BAD, 0, at);
                return length;
            }
            note(kindOfWord(letters), letters, at);
            return end;
        }

        private int kindOfWord(long letters) {
            for (int i = 0; i < words.length; i++) {
                if (words[i] == letters) {
                    return PACK + i;
                }
            }
            return NAME;
        }

        private int cutInt(byte[] tape, int length, int at) {
            int number = 0;
            int end = at;
            while (end < length && end < tape.length && isDigit(tape[end] & 255)) {
                if (end - at < LONGEST_INT) {
                    number = number * 10 + ((tape[end] & 255) - '0');
                }
                end++;
            }
            if (end - at > LONGEST_INT) {
                note(BAD, 0, at);
                return length;
            }
            note(INT, number, at);
            return end;
        }

        private int cutSign(byte[] tape, int length, int at) {
            int next = at + 1 < length && at + 1 < tape.length ? tape[at + 1] & 255 : 0;
            int kind = kindOfSign(tape[at] & 255, next == '=');
            note(kind, 0, at);
            if (kind == BAD) {
                return length;
            }
            return kind == EQUAL || kind == UNEQUAL || kind == AT_MOST ? at + 2 : at + 1;
        }

        private static int kindOfSign(int sign, boolean equalBehind) {
            switch (sign) {
                case ';':
                    return SEMICOLON;
                case '+':
                    return PLUS;
                case '-':
                    return MINUS;
                case '*':
                    return TIMES;
                case '/':
                    return OVER;
                case '(':
                    return OPENING;
                case ')':
                    return CLOSING;
                case '<':
                    return equalBehind ? AT_MOST : LESS;
                case '=':
                    return equalBehind ? EQUAL : BAD;
                case '!':
                    return equalBehind ? UNEQUAL : BAD;
                default:
                    return BAD;
            }
        }
    }

    /** What a text tells, with its conditions as rows of steps for a stack, and what follows from its pack. */
    private static final class Laws {
        private static final int MOST_HANDS = 1820;
        /** The two parts of a custom. */
        static final int WHEN = 0;
        static final int SAYS = 1;

        int suits;
        int ranks;
        /** NONE without, or if there is no such suit. */
        int trump;
        int customs;
        final int[] side = new int[MOST_CUSTOMS];
        final int[] kind = new int[MOST_CUSTOMS];
        /** Each custom's rows of steps: its when, its says. */
        final int[] from = new int[2 * MOST_CUSTOMS];
        final int[] to = new int[2 * MOST_CUSTOMS];
        /** A token's type, and 256 times a number or a variable's index. */
        final int[] step = new int[Tokens.ROOM];
        int steps;

        int cards;
        int handSize;
        final int[] suitCards = new int[4];
        final int[] suitOf = new int[MOST_CARDS];
        /** All sets of as many cards as a hand has. */
        final int[] hands = new int[MOST_HANDS];
        int handCount;

        void clear() {
            suits = 4;
            ranks = 4;
            trump = NONE;
            customs = 0;
            steps = 0;
        }

        void addStep(int tokenType, int number) {
            if (steps < step.length) {
                step[steps] = tokenType | number << 8;
                steps++;
            }
        }

        /** Its steps stand already: from when on, then from says on. */
        void addCustom(int ofSide, int ofKind, int when, int says) {
            if (customs < MOST_CUSTOMS) {
                side[customs] = ofSide;
                kind[customs] = ofKind;
                from[2 * customs + WHEN] = when;
                to[2 * customs + WHEN] = says;
                from[2 * customs + SAYS] = says;
                to[2 * customs + SAYS] = steps;
                customs++;
            }
        }

        int allCards() {
            return (1 << cards) - 1;
        }

        void settle() {
            cards = suits * ranks;
            handSize = cards / PLAYERS;
            if (trump >= suits) {
                trump = NONE;
            }
            for (int s = 0; s < suitCards.length; s++) {
                suitCards[s] = s < suits ? (1 << ranks) - 1 << s * ranks : 0;
            }
            for (int c = 0; c < suitOf.length; c++) {
                suitOf[c] = c < cards && ranks > 0 ? c / ranks : 0;
            }
            listHands();
        }

        private void listHands() {
            handCount = 0;
            int set = (1 << handSize) - 1;
            for (int k = 0; k < hands.length && set < 1 << cards; k++) {
                hands[k] = set;
                handCount++;
                int lowest = set & -set;
                int carried = set + lowest;
                set = carried | (set ^ carried) >>> 2 + Integer.numberOfTrailingZeros(lowest);
            }
        }

        int rankOf(int card) {
            return card - suitOf[card] * ranks;
        }
    }

    /** Goes through a text twice: first only for its faults, as a faulty one must leave the laws alone. */
    private static final class Reader {
        private static final int SYNTAX = 1;
        private static final int FULL = 2;
        private static final int TWICE = 3;
        private static final int WRONG = 5;
        private static final int MOST_NESTED = 6;

        private final Tokens tokens = new Tokens();
        private final Laws laws;
        private final long[] names = new long[MOST_CUSTOMS];
        private boolean writing;
        private int at;
        /** The type of the token that is next. */
        private int type;
        private int customs;
        private int fault;
        int place = NONE;
        /** A fault of meaning counts only if the whole text has none of form. */
        private int laterFault;
        private int laterPlace;

        Reader(Laws laws) {
            this.laws = laws;
        }

        /** Makes ready for passes over a new text. */
        void cut(byte[] tape, int length) {
            tokens.cut(tape, length);
        }

        /** Goes through the text that was cut; answers its fault, which it has in each pass or in none. */
        int pass(boolean intoLaws) {
            writing = intoLaws;
            at = 0;
            type = tokens.type[0];
            customs = 0;
            fault = 0;
            place = NONE;
            laterFault = 0;
            for (int k = 0; k <= Tokens.ROOM && fault == 0 && type != Tokens.END; k++) {
                if (type == Tokens.PACK) {
                    readPack();
                } else if (type == Tokens.TRUMP) {
                    readTrump();
                } else if (type == Tokens.CUSTOM && customs >= MOST_CUSTOMS) {
                    full();
                } else if (take(Tokens.CUSTOM)) {
                    readCustom();
                }
            }
            if (fault == 0 && laterFault != 0) {
                fault = laterFault;
                place = laterPlace;
            }
            return fault;
        }

        private boolean full() {
            fault = FULL;
            place = tokens.place[at];
            return false;
        }

        private void refuseLater(int number, int token) {
            if (laterFault == 0 && token >= 0 && token < tokens.place.length) {
                laterFault = number;
                laterPlace = tokens.place[token];
            }
        }

        /** Goes past a token that must be of a type. Only one that fits can lack room: syntax is the lesser fault. */
        private boolean take(int wanted) {
            if (type == wanted && at < Tokens.ROOM) {
                at++;
                type = tokens.type[at];
                return true;
            }
            fault = type == wanted ? FULL : SYNTAX;
            place = tokens.place[at];
            return false;
        }

        /** An INT's number, which is told as wrong outside its bounds; NONE if there is no INT. */
        private int number(int least, int most) {
            int number = (int) tokens.value[at];
            if (!take(Tokens.INT)) {
                return NONE;
            }
            if (number < least || number > most) {
                refuseLater(WRONG, at - 1);
            }
            return number;
        }

        private void readPack() {
            int suits = take(Tokens.PACK) ? number(1, 4) : NONE;
            int ranks = suits >= 0 ? number(1, MOST_CARDS) : NONE;
            if (ranks < 0) {
                return;
            }
            // If one of both is wrong already, that is told at its place, ahead of this one or the same.
            if (suits * ranks > MOST_CARDS || suits * ranks % PLAYERS != 0) {
                refuseLater(WRONG, at - 1);
            }
            if (take(Tokens.SEMICOLON) && writing) {
                laws.suits = suits;
                laws.ranks = ranks;
            }
        }

        private void readTrump() {
            int trump = take(Tokens.TRUMP) ? number(0, 3) : NONE;
            if (trump >= 0 && take(Tokens.SEMICOLON) && writing) {
                laws.trump = trump;
            }
        }

        /** From behind the word custom on. */
        private void readCustom() {
            int side = readName() ? number(0, 2) : NONE;
            if (side < 0) {
                return;
            }
            int kind = Math.max(LEAD, Math.min(DISCARD, type - Tokens.LEADS));
            if (!take(Tokens.LEADS + kind)) {
                return;
            }
            int when = laws.steps;
            if (type == Tokens.WHEN && !(take(Tokens.WHEN) && condition())) {
                return;
            }
            int says = laws.steps;
            if (!take(Tokens.SAYS) || !condition() || !take(Tokens.SEMICOLON)) {
                return;
            }
            if (writing) {
                laws.addCustom(side, kind, when, says);
            }
            customs++;
        }

        private boolean readName() {
            long name = tokens.value[at];
            if (!take(Tokens.NAME) || customs >= MOST_CUSTOMS) {
                return false;
            }
            for (int i = 0; i < customs; i++) {
                if (names[i] == name) {
                    refuseLater(TWICE, at - 1);
                }
            }
            names[customs] = name;
            return true;
        }

        private void add(int stepType, int number) {
            if (writing) {
                laws.addStep(stepType, number);
            }
        }

        /** An 'and' binds at once, an 'or' waits until what stands behind it is whole. */
        private boolean condition() {
            boolean waiting = false;
            boolean well = literal();
            for (int k = 0; k < Tokens.ROOM && well && (type == Tokens.AND || type == Tokens.OR); k++) {
                boolean and = type == Tokens.AND;
                if (!and && waiting) {
                    add(Tokens.OR, 0);
                }
                well = take(type) && literal();
                if (and) {
                    add(Tokens.AND, 0);
                } else {
                    waiting = true;
                }
            }
            if (waiting) {
                add(Tokens.OR, 0);
            }
            return well;
        }

        private boolean literal() {
            boolean not = false;
            for (int k = 0; k <= Tokens.ROOM && type == Tokens.NOT; k++) {
                not = !not;
                if (!take(Tokens.NOT)) {
                    return false;
                }
            }
            if (!expression(0)) {
                return false;
            }
            int relation = Math.max(Tokens.EQUAL, Math.min(Tokens.AT_MOST, type));
            if (!take(relation) || !expression(0)) {
                return false;
            }
            add(relation, 0);
            if (not) {
                add(Tokens.NOT, 0);
            }
            return true;
        }

        /** As in a condition: * and / bind at once, + and - wait. */
        private boolean expression(int depth) {
            int waiting = Tokens.END;
            boolean well = unit(depth);
            for (int k = 0; k < Tokens.ROOM && well && type >= Tokens.PLUS && type <= Tokens.OVER; k++) {
                int sign = type;
                boolean sum = sign == Tokens.PLUS || sign == Tokens.MINUS;
                if (sum && waiting != Tokens.END) {
                    add(waiting, 0);
                }
                well = take(sign) && unit(depth);
                if (sum) {
                    waiting = sign;
                } else {
                    add(sign, 0);
                }
            }
            if (waiting != Tokens.END) {
                add(waiting, 0);
            }
            return well;
        }

        private boolean unit(int depth) {
            if (type == Tokens.OPENING) {
                if (depth >= MOST_NESTED) {
                    return full();
                }
                return take(Tokens.OPENING) && expression(depth + 1) && take(Tokens.CLOSING);
            }
            if (type >= Tokens.SUIT && type <= Tokens.TRUMPS) {
                add(Tokens.SUIT, type - Tokens.SUIT);
                return take(type);
            }
            if (type == Tokens.COUNT) {
                int suit = take(Tokens.COUNT) ? number(0, 3) : NONE;
                add(Tokens.SUIT, Judge.COUNTS + suit);
                return suit >= 0;
            }
            int number = number(0, 9999);
            add(Tokens.INT, number);
            return number >= 0;
        }
    }

    /** Says of a card that is played which customs apply to it, and which are lies by a hand. */
    private static final class Judge {
        /** The variables stand in the order of their words, behind them the count of each suit. */
        static final int HELD = 5;
        static final int HIGH = 6;
        static final int LOW = 7;
        static final int VOIDS = 8;
        static final int TRUMPS = 9;
        static final int COUNTS = 10;

        private final Laws laws;
        private final int[] variable = new int[COUNTS + 4];
        private final int[] stack = new int[64];

        Judge(Laws laws) {
            this.laws = laws;
        }

        void about(int card, int led, int trick, int before) {
            variable[0] = laws.suitOf[card];
            variable[1] = laws.rankOf(card);
            variable[2] = led;
            variable[3] = trick;
            variable[4] = before;
            for (int i = HELD; i < variable.length; i++) {
                variable[i] = 0;
            }
        }

        void seeing(int hand) {
            int suit = variable[0];
            int same = hand & laws.suitCards[suit];
            if (same != 0) {
                variable[HIGH] = laws.rankOf(31 - Integer.numberOfLeadingZeros(same));
                variable[LOW] = laws.rankOf(Integer.numberOfTrailingZeros(same));
            }
            int voids = 0;
            for (int s = 0; s < laws.suits; s++) {
                int number = Integer.bitCount(hand & laws.suitCards[s]);
                variable[COUNTS + s] = number;
                voids += number == 0 ? 1 : 0;
            }
            variable[HELD] = variable[COUNTS + suit];
            variable[VOIDS] = voids;
            variable[TRUMPS] = laws.trump < 0 ? 0 : variable[COUNTS + laws.trump];
        }

        /** In a when nothing of the hand is seen: to be asked ahead of seeing(). */
        int applying(int kind, int side) {
            int applying = 0;
            for (int c = 0; c < laws.customs; c++) {
                boolean concerned = laws.kind[c] == kind && (laws.side[c] == 2 || laws.side[c] == side);
                if (concerned && holds(c, Laws.WHEN)) {
                    applying |= 1 << c;
                }
            }
            return applying;
        }

        int lying(int customs) {
            int lying = 0;
            for (int c = 0; c < laws.customs; c++) {
                if ((customs >> c & 1) != 0 && !holds(c, Laws.SAYS)) {
                    lying |= 1 << c;
                }
            }
            return lying;
        }

        /** A custom's when or says; one without steps always holds. */
        boolean holds(int custom, int part) {
            int top = -1;
            boolean byZero = false;
            int end = laws.to[2 * custom + part];
            for (int i = laws.from[2 * custom + part]; i < end; i++) {
                int type = laws.step[i] & 255;
                int number = laws.step[i] >> 8;
                if (type == Tokens.INT || type == Tokens.SUIT) {
                    if (top + 1 >= stack.length || number < 0 || type == Tokens.SUIT && number >= variable.length) {
                        return false;
                    }
                    top++;
                    stack[top] = type == Tokens.INT ? number : variable[number];
                    continue;
                }
                if (top < 0 || top < 1 && type != Tokens.NOT) {
                    return false;
                }
                int right = stack[top];
                top -= type == Tokens.NOT ? 0 : 1;
                int left = stack[top];
                switch (type) {
                    case Tokens.PLUS:
                        stack[top] = left + right;
                        break;
                    case Tokens.MINUS:
                        stack[top] = left - right;
                        break;
                    case Tokens.TIMES:
                        stack[top] = left * right;
                        break;
                    case Tokens.OVER:
                        byZero = byZero || right == 0;
                        stack[top] = right == 0 ? 0 : left / right;
                        break;
                    case Tokens.AND:
                        stack[top] = left & right;
                        break;
                    case Tokens.OR:
                        stack[top] = left | right;
                        break;
                    case Tokens.NOT:
                        stack[top] = 1 - right;
                        break;
                    default:
                        stack[top] = !byZero && (type == Tokens.EQUAL ? left == right : type == Tokens.UNEQUAL ? left != right
                                : type == Tokens.LESS ? left < right : left <= right) ? 1 : 0;
                        byZero = false;
                        break;
                }
            }
            return top < 0 || stack[top] != 0;
        }
    }

    /** A game: who was dealt what, and each card that was played with all that can be said of it. */
    private static final class Game {
        private final Laws laws;
        private final Judge judge;
        boolean dealtOut;
        final int[] dealt = new int[PLAYERS];
        final int[] now = new int[PLAYERS];
        private int first;
        /** Who is to play; NOT_NOW if nobody is. */
        int turn = NOT_NOW;
        int size;
        final int[] cards = new int[MOST_CARDS];
        final int[] who = new int[MOST_CARDS];
        final int[] kind = new int[MOST_CARDS];
        final int[] led = new int[MOST_CARDS];
        final int[] before = new int[MOST_CARDS];
        /** 1 for a revoke. */
        final int[] broken = new int[MOST_CARDS];
        final int[] applies = new int[MOST_CARDS];
        final int[] lied = new int[MOST_CARDS];
        /** As many tricks as a hand has cards. */
        final int[] winners = new int[MOST_IN_HAND];
        /** Grows with each change, so that what was found out for one state is not taken for another. */
        int stamp;

        Game(Laws laws, Judge judge) {
            this.laws = laws;
            this.judge = judge;
        }

        void clear() {
            dealtOut = false;
            size = 0;
            turn = NOT_NOW;
            stamp++;
        }

        void begin(int a, int b, int c, int d) {
            dealt[0] = a;
            dealt[1] = b;
            dealt[2] = c;
            dealt[3] = d;
            for (int p = 0; p < PLAYERS; p++) {
                now[p] = dealt[p];
            }
            dealtOut = true;
            size = 0;
            leadBy(0);
        }

        void leadBy(int player) {
            first = player;
            turn = player;
            stamp++;
        }

        /** The row of the deal stands in cards, of which none counts yet. */
        void dealByLots(int seed) {
            for (int i = 0; i < laws.cards; i++) {
                cards[i] = i;
            }
            for (int i = laws.cards - 1; i >= 1; i--) {
                int other = lot(i + 1, seed, i);
                int card = cards[i];
                cards[i] = cards[other];
                cards[other] = card;
            }
            begin(row(0), row(1), row(2), row(3));
        }

        private int row(int player) {
            int hand = 0;
            for (int i = 0; i < laws.handSize; i++) {
                hand |= 1 << cards[player * laws.handSize + i];
            }
            return hand;
        }

        private static int lot(int n, int seed, int which) {
            int h = mixed(mixed(seed, 20), which);
            return n > 0 ? (h >>> 1) % n : 0;
        }

        private static int mixed(int h, int number) {
            int mixed = (h ^ number) * 1103515245 + 12345;
            return mixed ^ mixed >>> 15;
        }

        void copy(Game other) {
            begin(other.dealt[0], other.dealt[1], other.dealt[2], other.dealt[3]);
            leadBy(other.first);
            for (int i = 0; i < other.size; i++) {
                put(other.cards[i]);
            }
        }

        boolean isOver() {
            return dealtOut && size == laws.cards;
        }

        /** The suit of the trick on the table; NONE if a lead is due. */
        int ledSuit() {
            int start = size - size % PLAYERS;
            return start < size ? laws.suitOf[cards[start]] : NONE;
        }

        int legal() {
            if (turn < 0) {
                return 0;
            }
            int suit = ledSuit();
            int following = suit < 0 ? 0 : now[turn] & laws.suitCards[suit];
            return following != 0 ? following : now[turn];
        }

        /** The one to play plays a card of his hand. */
        void put(int card) {
            if (turn < 0 || size >= MOST_CARDS || card < 0 || card >= MOST_CARDS) {
                return;
            }
            int suit = ledSuit();
            cards[size] = card;
            who[size] = turn;
            led[size] = suit;
            kind[size] = kindOf(card, suit);
            before[size] = rankBefore(card);
            broken[size] = kind[size] == DISCARD && (now[turn] & laws.suitCards[suit]) != 0 ? 1 : 0;
            applies[size] = applying(card);
            judge.seeing(now[turn]);
            lied[size] = judge.lying(applies[size]);
            now[turn] &= ~(1 << card);
            size++;
            if (size % PLAYERS == 0) {
                winners[size / PLAYERS - 1] = who[bestOnTable(size - PLAYERS)];
            }
            turn = next();
            stamp++;
        }

        private int next() {
            if (size >= laws.cards) {
                return NOT_NOW;
            }
            return size % PLAYERS == 0 ? winners[size / PLAYERS - 1] : turn + 1 & 3;
        }

        void takeBack() {
            if (size > 0) {
                size--;
                turn = who[size];
                now[turn] |= 1 << cards[size];
                stamp++;
            }
        }

        private int kindOf(int card, int suit) {
            if (suit < 0) {
                return LEAD;
            }
            return laws.suitOf[card] == suit ? FOLLOW : DISCARD;
        }

        private int rankBefore(int card) {
            for (int i = size - 1; i >= 0; i--) {
                if (who[i] == turn && laws.suitOf[cards[i]] == laws.suitOf[card]) {
                    return laws.rankOf(cards[i]);
                }
            }
            return NONE;
        }

        /** The judge is left with this card in mind. */
        private int applying(int card) {
            int suit = ledSuit();
            judge.about(card, suit, size / PLAYERS, rankBefore(card));
            return judge.applying(kindOf(card, suit), turn & 1);
        }

        int liesOf(int card) {
            int applying = applying(card);
            judge.seeing(now[turn & 3]);
            return judge.lying(applying);
        }

        /** Of some cards those with which none of these customs would be a lie. */
        int honest(int some, int customs) {
            int honest = 0;
            for (int c = 0; c < laws.cards; c++) {
                if ((some >> c & 1) != 0 && (liesOf(c) & customs) == 0) {
                    honest |= 1 << c;
                }
            }
            return honest;
        }

        /** The place of the best card of those from a trick's first one on. */
        int bestOnTable(int start) {
            int best = start;
            for (int i = start + 1; i < size && i < start + PLAYERS; i++) {
                int suit = laws.suitOf[cards[i]];
                boolean same = suit == laws.suitOf[cards[best]];
                if (same ? cards[i] > cards[best] : suit == laws.trump) {
                    best = i;
                }
            }
            return best;
        }

        int wonBy(int side) {
            int won = 0;
            for (int i = 0; i < size / PLAYERS; i++) {
                won += (winners[i] & 1) == side ? 1 : 0;
            }
            return won;
        }

        /** The place of the card with which a revoke shows; NOT_NOW without. */
        int shownAt(int i) {
            if (broken[i] == 0) {
                return NOT_NOW;
            }
            for (int k = i + 1; k < size; k++) {
                if (who[k] == who[i] && laws.suitOf[cards[k]] == led[i]) {
                    return k;
                }
            }
            return NOT_NOW;
        }
    }

    /**
     * Play with open cards: side 0 wants tricks, side 1 wants it to have none. A trick is told in one number: how
     * many cards it has, the suit that was led, its best card, and who played that.
     */
    private static final class Open {
        /** A power of two, well above the positions that a deal was seen to need (1123 at most). */
        private static final int MEMORY = 2048;
        private static final int OLDEST = 1023;
        private static final int PROBES = 8;

        private final Laws laws;
        private final int[] suitCards;
        private final int[] suitOf;
        final int[] hand = new int[PLAYERS];
        private int trump;
        private int turn;
        private int trick;
        /** Tricks that are not won yet, the one on the table too. */
        int left;
        /** Values of positions between tricks, for one deal: its age, cards left, leader, value. */
        private final int[] memory = new int[MEMORY];
        private boolean remembering;
        private int age = 1;
        private final int[] memoryDeal = new int[PLAYERS];
        private final int[] line = new int[MOST_CARDS];
        private int lineStamp = NONE;

        Open(Laws laws) {
            this.laws = laws;
            suitCards = laws.suitCards;
            suitOf = laws.suitOf;
        }

        void forget() {
            lineStamp = NONE;
            for (int p = 0; p < PLAYERS; p++) {
                memoryDeal[p] = 0;
            }
        }

        /** Takes the table as it is; the hands may be exchanged afterwards. */
        void stand(Game game) {
            trump = laws.trump;
            turn = game.turn & 3;
            int laid = game.size % PLAYERS;
            left = laws.handSize - game.size / PLAYERS;
            remembering = false;
            trick = 0;
            if (laid > 0) {
                int best = game.bestOnTable(game.size - laid);
                trick = trickOf(laid, game.ledSuit(), game.cards[best], game.who[best]);
            }
            for (int p = 0; p < PLAYERS; p++) {
                hand[p] = game.now[p];
            }
        }

        private void standRemembering(Game game) {
            stand(game);
            remembering = true;
            boolean same = true;
            for (int p = 0; p < PLAYERS; p++) {
                same = same && memoryDeal[p] == game.dealt[p];
                memoryDeal[p] = game.dealt[p];
            }
            if (!same) {
                renewMemory();
            }
        }

        /** What older deals left is known by its age, and need not be wiped out. */
        private void renewMemory() {
            age++;
            if (age > OLDEST) {
                Arrays.fill(memory, 0);
                age = 1;
            }
        }

        private static int trickOf(int laid, int led, int best, int by) {
            return laid | led << 2 | best << 4 | by << 8;
        }

        int valueOf(Game game) {
            if (game.turn < 0) {
                return 0;
            }
            standRemembering(game);
            return standing();
        }

        private int standing() {
            return (trick & 3) == 0 ? between(turn, 0, left) : best(turn, trick, 0, left);
        }

        /** What comes of a card by who is to play, as the table stands. */
        int playing(int card) {
            int mine = hand[turn];
            hand[turn] = mine & ~(1 << card);
            int value = laying(turn, trick, card, 0, left);
            hand[turn] = mine;
            return value;
        }

        /** Tricks that the side to play loses by a card. */
        int lossBy(Game game, int card) {
            if (game.turn < 0 || card < 0 || game.legal() == 1 << card) {
                return 0;
            }
            standRemembering(game);
            int loss = standing() - playing(card);
            return (game.turn & 1) == 0 ? loss : -loss;
        }

        int lineCard(Game game, int i) {
            if (lineStamp != game.stamp) {
                findLine(game);
                lineStamp = game.stamp;
            }
            return i >= 0 && i < line.length ? line[i] : NONE;
        }

        private void findLine(Game game) {
            standRemembering(game);
            int value = standing();
            for (int i = 0; i < laws.cards - game.size && i < line.length; i++) {
                int card = leastReaching(value);
                line[i] = card;
                hand[turn] &= ~(1 << card);
                trick = joined(trick, card, turn);
                turn = turn + 1 & 3;
                if ((trick & 3) == 0) {
                    turn = trick >> 8 & 3;
                    trick = 0;
                    left--;
                    value -= 1 - (turn & 1);
                }
            }
        }

        private int leastReaching(int value) {
            int cards = legal(turn, trick);
            for (int c = 0; c < MOST_CARDS; c++) {
                if ((cards >> c & 1) != 0 && playing(c) == value) {
                    return c;
                }
            }
            return Integer.numberOfTrailingZeros(cards) & 15;
        }

        private int legal(int player, int trick) {
            int mine = hand[player];
            int following = (trick & 3) == 0 ? 0 : mine & suitCards[trick >> 2 & 3];
            return following != 0 ? following : mine;
        }

        /** The trick with one card more; with the fourth its number of cards is 0 again. */
        private int joined(int trick, int card, int player) {
            if ((trick & 3) == 0) {
                return trickOf(1, suitOf[card], card, player);
            }
            int best = trick >> 4 & 15;
            int suit = suitOf[card];
            if (suit == suitOf[best] ? card > best : suit == trump) {
                return trickOf(trick + 1 & 3, trick >> 2 & 3, card, player);
            }
            return trick & ~3 | trick + 1 & 3;
        }

        /**
         * Side 0's tricks from here on, exact between low and high; outside only on which side of them. High cards
         * come first, and of neighbours, between which no other card is left, one will do: both prune much.
         */
        private int best(int player, int trick, int low, int high) {
            int mine = hand[player];
            int cards = legal(player, trick);
            int others = hand[player + 1 & 3] | hand[player + 2 & 3] | hand[player + 3 & 3];
            if ((trick & 3) != 0) {
                others |= 1 << (trick >> 4 & 15);
            }
            boolean wanting = (player & 1) == 0;
            int above = NONE;
            for (int k = 0; k < MOST_IN_HAND && cards != 0 && low < high; k++) {
                int card = 31 - Integer.numberOfLeadingZeros(cards);
                cards ^= 1 << card;
                boolean alike = above >= 0 && suitOf[card] == suitOf[above] && (others & (1 << above) - 1) >>> card == 0;
                above = card;
                if (alike) {
                    continue;
                }
                hand[player] = mine & ~(1 << card);
                int value = laying(player, trick, card, low, high);
                if (wanting) {
                    low = Math.max(low, value);
                } else {
                    high = Math.min(high, value);
                }
            }
            hand[player] = mine;
            return wanting ? low : high;
        }

        private int laying(int player, int trick, int card, int low, int high) {
            int joined = joined(trick, card, player);
            if ((joined & 3) != 0) {
                return best(player + 1 & 3, joined, low, high);
            }
            int by = joined >> 8 & 3;
            int won = 1 - (by & 1);
            left--;
            int lower = Math.max(low - won, 0);
            int higher = Math.min(high - won, left);
            int value = lower < higher ? between(by, lower, higher) : lower;
            left++;
            return won + value;
        }

        private int between(int leader, int low, int high) {
            if (left == 1) {
                return lastTrick(leader);
            }
            if (!remembering) {
                return best(leader, 0, low, high);
            }
            int key = (hand[0] | hand[1] | hand[2] | hand[3]) << 2 | leader;
            int at = slotOf(key);
            if (memory[at] >>> 3 == (age << 18 | key)) {
                return memory[at] & 7;
            }
            int value = best(leader, 0, 0, left);
            memory[slotOf(key)] = (age << 18 | key) << 3 | value;
            return value;
        }

        /** Where a position's value stands or may be put: the last place that is tried is given up if none is free. */
        private int slotOf(int key) {
            int at = key * -1640531527 >>> 21;
            for (int k = 1; k < PROBES; k++) {
                int there = memory[at] >>> 3;
                if (there >>> 18 != age || there == (age << 18 | key)) {
                    return at;
                }
                at = at + 1 & MEMORY - 1;
            }
            return at;
        }

        /** Each has one card: nobody has a choice. */
        private int lastTrick(int leader) {
            int by = leader;
            int best = Integer.numberOfTrailingZeros(hand[leader]) & 15;
            for (int k = 1; k < PLAYERS; k++) {
                int player = leader + k & 3;
                int card = Integer.numberOfTrailingZeros(hand[player]) & 15;
                int suit = suitOf[card];
                if (suit == suitOf[best] ? card > best : suit == trump) {
                    best = card;
                    by = player;
                }
            }
            return 1 - (by & 1);
        }
    }

    /**
     * All deals that can be. Whether a hand fits what its player played is seen by that hand alone, so that the
     * hands that fit are listed for each player first and then joined to deals.
     */
    private static final class Deals {
        private static final int MOST_LISTED = 495;

        private final Laws laws;
        private final Judge judge;
        private final int[][] listed = new int[PLAYERS][MOST_LISTED];
        private final int[] size = new int[PLAYERS];
        /** The same hands as bits, to look one up. */
        private final long[][] fitting = new long[PLAYERS][(1 << MOST_CARDS) / 64];
        private final int[] played = new int[PLAYERS];
        /** The deal that next() found. */
        final int[] hand = new int[PLAYERS];
        private int own;
        private int one;
        private int two;
        private int three;
        private int atOne;
        private int atTwo;

        Deals(Laws laws, Judge judge) {
            this.laws = laws;
            this.judge = judge;
        }

        /** Lists the hands that fit for all players but one, without the cards that are banned. */
        void listFor(Game game, int upTo, int customs, int banned, int butFor) {
            int all = 0;
            for (int p = 0; p < PLAYERS; p++) {
                played[p] = 0;
                size[p] = 0;
                for (int i = 0; i < fitting[p].length && i << 6 < 1 << laws.cards; i++) {
                    fitting[p][i] = 0L;
                }
            }
            for (int i = 0; i < upTo; i++) {
                played[game.who[i]] |= 1 << game.cards[i];
                all |= 1 << game.cards[i];
            }
            for (int p = 0; p < PLAYERS; p++) {
                int never = banned | all & ~played[p];
                for (int i = 0; i < laws.handCount && p != butFor; i++) {
                    int cards = laws.hands[i];
                    boolean open = (cards & played[p]) == played[p] && (cards & never) == 0;
                    if (open && fits(game, p, cards, upTo, customs)) {
                        note(p, cards);
                    }
                }
            }
        }

        private void note(int player, int cards) {
            if (size[player] < MOST_LISTED) {
                listed[player][size[player]] = cards;
                size[player]++;
                fitting[player][cards >>> 6] |= 1L << (cards & 63);
            }
        }

        private boolean fits(Game game, int player, int cards, int upTo, int customs) {
            int still = cards;
            for (int i = 0; i < upTo; i++) {
                if (game.who[i] != player) {
                    continue;
                }
                if (game.kind[i] == DISCARD && (still & laws.suitCards[game.led[i]]) != 0) {
                    return false;
                }
                int asked = game.applies[i] & customs;
                if (asked != 0) {
                    judge.about(game.cards[i], game.led[i], i / PLAYERS, game.before[i]);
                    judge.seeing(still);
                    if (judge.lying(asked) != 0) {
                        return false;
                    }
                }
                still &= ~(1 << game.cards[i]);
            }
            return true;
        }

        /** The hands of the one with the longest list are looked up, not gone through. */
        void start(int player, int ownCards) {
            own = ownCards;
            one = player + 1 & 3;
            two = player + 2 & 3;
            three = player + 3 & 3;
            if (size[one] > size[three]) {
                int other = one;
                one = three;
                three = other;
            }
            if (size[two] > size[three]) {
                int other = two;
                two = three;
                three = other;
            }
            hand[player & 3] = ownCards;
            atOne = 0;
            atTwo = 0;
        }

        /** Goes on to the next deal; false if there is none. */
        boolean next() {
            int all = laws.allCards() & ~own;
            int[] seconds = listed[two];
            for (; atOne < size[one]; atOne++) {
                int first = listed[one][atOne];
                int taken = own | first;
                for (; atTwo < size[two] && (first & own) == 0; atTwo++) {
                    int second = seconds[atTwo];
                    if ((second & taken) == 0 && isFitting(three, all & ~first & ~second)) {
                        hand[one] = first;
                        hand[two] = second;
                        hand[three] = all & ~first & ~second;
                        atTwo++;
                        return true;
                    }
                }
                atTwo = 0;
            }
            return false;
        }

        private boolean isFitting(int player, int cards) {
            return (fitting[player][cards >>> 6] >>> (cards & 63) & 1L) != 0;
        }

        int number() {
            int number = 0;
            for (int k = 0; k < MOST_DEALS && next(); k++) {
                number++;
            }
            return number;
        }

        int numberWith(int player, int card) {
            int number = 0;
            for (int k = 0; k < MOST_DEALS && next(); k++) {
                number += hand[player] >> card & 1;
            }
            return number;
        }

        /** Cards of the other three that one and the same has in all deals. */
        int common() {
            int a = laws.allCards();
            int b = a;
            int c = a;
            int number = 0;
            for (int k = 0; k < MOST_DEALS && next(); k++) {
                a &= hand[one];
                b &= hand[two];
                c &= hand[three];
                number++;
            }
            return number == 0 ? 0 : a | b | c;
        }

        /** In how many of a player's deals another one, by the hand that he has there, is sure of a card. */
        int numberKnown(int player, int ownCards, int other, int card) {
            int number = 0;
            for (int i = 0; i < size[other]; i++) {
                int cards = listed[other][i];
                int ways = (cards & ownCards) == 0 ? ways(player, other, ownCards | cards) : 0;
                if (ways > 0 && ((cards >> card & 1) != 0 || isSure(other, cards, card))) {
                    number += ways;
                }
            }
            return number;
        }

        /** In how many ways the two who are left can have the cards that are not taken. */
        private int ways(int player, int other, int taken) {
            int last = NONE;
            int ways = 0;
            for (int p = 0; p < PLAYERS; p++) {
                if (p == player || p == other) {
                    continue;
                }
                if (last < 0) {
                    last = p;
                    continue;
                }
                for (int i = 0; i < size[p]; i++) {
                    int cards = listed[p][i];
                    if ((cards & taken) == 0 && isFitting(last, laws.allCards() & ~taken & ~cards)) {
                        ways++;
                    }
                }
            }
            return ways;
        }

        private boolean isSure(int player, int ownCards, int card) {
            start(player, ownCards);
            int owner = NONE;
            for (int k = 0; k < MOST_DEALS && next(); k++) {
                for (int p = 0; p < PLAYERS; p++) {
                    if ((hand[p] >> card & 1) != 0) {
                        if (owner >= 0 && owner != p) {
                            return false;
                        }
                        owner = p;
                    }
                }
            }
            return owner >= 0;
        }
    }

    /** In how many of the deals that can be a card brings how many tricks: kept as long as it is the same question. */
    private static final class Weigher {
        private static final int COUNTS = 5;

        private final Deals deals;
        private final Open solver;
        private final int[] tally = new int[MOST_CARDS * COUNTS];
        private int weighed;
        private Game lastGame;
        private int lastStamp;
        private int lastCustoms;

        Weigher(Deals deals, Open solver) {
            this.deals = deals;
            this.solver = solver;
        }

        void forget() {
            lastGame = null;
        }

        /** Of some customs those that say anything about the hands of the others. */
        int telling(Game game, int customs) {
            int telling = 0;
            for (int i = 0; i < game.size; i++) {
                if (game.who[i] != game.turn) {
                    telling |= game.applies[i];
                }
            }
            return telling & customs;
        }

        void weigh(Game game, int customs, int cards) {
            int missing = cards & ~known(game, telling(game, customs));
            if (missing == 0 || game.turn < 0) {
                return;
            }
            weighed |= missing;
            solver.stand(game);
            deals.listFor(game, game.size, lastCustoms, game.dealt[game.turn], game.turn);
            deals.start(game.turn, game.dealt[game.turn]);
            for (int k = 0; k < MOST_DEALS && deals.next(); k++) {
                for (int p = 0; p < PLAYERS; p++) {
                    solver.hand[p] = deals.hand[p] & ~(game.dealt[p] & ~game.now[p]);
                }
                int rest = missing;
                for (int i = 0; i < MOST_CARDS && rest != 0; i++) {
                    int card = Integer.numberOfTrailingZeros(rest);
                    rest &= rest - 1;
                    int won = solver.playing(card);
                    enter(card, (game.turn & 1) == 0 ? won : solver.left - won);
                }
            }
        }

        /** The cards that are weighed already for a question; the tallies of all others are 0. */
        private int known(Game game, int customs) {
            if (lastGame != game || lastStamp != game.stamp || lastCustoms != customs) {
                lastGame = game;
                lastStamp = game.stamp;
                lastCustoms = customs;
                weighed = 0;
                Arrays.fill(tally, 0);
            }
            return weighed;
        }

        private void enter(int card, int won) {
            if (won >= 0 && won < COUNTS) {
                tally[card * COUNTS + won]++;
            }
        }

        int times(int card, int won) {
            int at = card * COUNTS + won;
            return at >= 0 && at < tally.length ? tally[at] : 0;
        }

        int sum(int card) {
            int sum = 0;
            for (int won = 1; won < COUNTS; won++) {
                sum += won * times(card, won);
            }
            return sum;
        }

        int least(int card) {
            for (int won = 0; won < COUNTS; won++) {
                if (times(card, won) > 0) {
                    return won;
                }
            }
            return 0;
        }

        /** Of cards that were weighed the least one with the greatest sum. */
        int best(int cards) {
            int best = NONE;
            for (int c = 0; c < MOST_CARDS; c++) {
                if ((cards >> c & 1) != 0 && (best < 0 || sum(c) > sum(best))) {
                    best = c;
                }
            }
            return best;
        }

        /** A single card need not be weighed. */
        int choose(Game game, int customs, int cards) {
            if (Integer.bitCount(cards) == 1) {
                return Integer.numberOfTrailingZeros(cards);
            }
            weigh(game, customs, cards);
            return best(cards);
        }

        int safest(Game game, int customs, int cards) {
            weigh(game, customs, cards);
            int best = NONE;
            for (int c = 0; c < MOST_CARDS; c++) {
                if ((cards >> c & 1) != 0 && (best < 0 || isSafer(c, best))) {
                    best = c;
                }
            }
            return Math.max(best, 0);
        }

        private boolean isSafer(int card, int than) {
            return least(card) != least(than) ? least(card) > least(than) : sum(card) > sum(than);
        }
    }

    /** Games of eight cards that play themselves. */
    private static final class Gains {
        private static final int MEMORY = 1024;

        private final Game trial;
        private final Weigher weigher;
        /** Choices that were weighed, each behind its question. */
        private final int[] memory = new int[MEMORY];

        Gains(Game trial, Weigher weigher) {
            this.trial = trial;
            this.weigher = weigher;
        }

        void forget() {
            Arrays.fill(memory, 0);
        }

        /** The tricks of side 0 in all of these games. */
        int total(int customs, int seed, int m) {
            int total = 0;
            for (int i = 0; i < m; i++) {
                trial.dealByLots(seed + i);
                for (int k = 0; k < MOST_CARDS && trial.turn >= 0; k++) {
                    trial.put(pick(customs));
                }
                total += trial.wonBy(0);
            }
            return total;
        }

        private int pick(int customs) {
            int legal = trial.legal();
            int honest = Integer.bitCount(legal) == 1 ? legal : trial.honest(legal, customs);
            int cards = honest == 0 ? legal : honest;
            if (Integer.bitCount(cards) == 1) {
                return Integer.numberOfTrailingZeros(cards);
            }
            int question = question(cards, weigher.telling(trial, customs));
            int at = question * -1640531527 >>> 22;
            if (memory[at] >>> 3 != question) {
                weigher.weigh(trial, customs, cards);
                memory[at] = question << 3 | weigher.best(cards) & 7;
            }
            return memory[at] & 7;
        }

        /**
         * Two cards to choose from are the whole hand, in the first trick: the choice hangs on that hand, the cards
         * on the table and the customs that tell something, and on nothing else.
         */
        private int question(int cards, int telling) {
            int question = telling << 2 | trial.size & 3;
            for (int i = 0; i < 3; i++) {
                question = question << 3 | (i < trial.size ? trial.cards[i] & 7 : 0);
            }
            return question << 8 | cards & 255;
        }
    }

    /** Of each game that is kept only how often each custom applied and how often it was a lie. */
    private static final class Books {
        private final int[] applied = new int[MOST_BOOKS * MOST_CUSTOMS];
        private final int[] lied = new int[MOST_BOOKS * MOST_CUSTOMS];
        int size;

        void clear() {
            size = 0;
        }

        int keep(Game game) {
            if (size >= MOST_BOOKS) {
                return NONE;
            }
            for (int custom = 0; custom < MOST_CUSTOMS; custom++) {
                int at = size * MOST_CUSTOMS + custom;
                applied[at] = 0;
                lied[at] = 0;
                for (int i = 0; i < game.size; i++) {
                    applied[at] += game.applies[i] >> custom & 1;
                    lied[at] += game.lied[i] >> custom & 1;
                }
            }
            size++;
            return size - 1;
        }

        int timesApplied(int custom, int n) {
            return added(applied, custom, n);
        }

        int timesLied(int custom, int n) {
            return added(lied, custom, n);
        }

        private static int added(int[] row, int custom, int n) {
            int sum = 0;
            for (int i = 0; i < n && i < MOST_BOOKS; i++) {
                sum += row[i * MOST_CUSTOMS + custom];
            }
            return sum;
        }
    }

    /** First leads of a game from every hand. Whether a custom applies is seen by the card alone. */
    private static final class Openings {
        private final Laws laws;
        private final Judge judge;

        Openings(Laws laws, Judge judge) {
            this.laws = laws;
            this.judge = judge;
        }

        private int handsWithOneCard() {
            return laws.cards > 0 ? laws.handCount * laws.handSize / laws.cards : 0;
        }

        private boolean appliesTo(int custom, int card) {
            judge.about(card, NONE, 0, NONE);
            return laws.kind[custom] == LEAD && judge.holds(custom, Laws.WHEN);
        }

        int applied(int custom) {
            int number = 0;
            for (int card = 0; card < laws.cards; card++) {
                number += appliesTo(custom, card) ? handsWithOneCard() : 0;
            }
            return number;
        }

        int held(int custom) {
            int number = 0;
            for (int card = 0; card < laws.cards; card++) {
                if (!appliesTo(custom, card)) {
                    continue;
                }
                for (int i = 0; i < laws.handCount; i++) {
                    if ((laws.hands[i] >> card & 1) != 0) {
                        judge.seeing(laws.hands[i]);
                        number += judge.holds(custom, Laws.SAYS) ? 1 : 0;
                    }
                }
            }
            return number;
        }

        int disputed(int custom, int other) {
            int number = 0;
            for (int card = 0; card < laws.cards; card++) {
                if (!appliesTo(custom, card) || !appliesTo(other, card)) {
                    continue;
                }
                for (int i = 0; i < laws.handCount; i++) {
                    if ((laws.hands[i] >> card & 1) != 0) {
                        judge.seeing(laws.hands[i]);
                        number += judge.holds(custom, Laws.SAYS) != judge.holds(other, Laws.SAYS) ? 1 : 0;
                    }
                }
            }
            return number;
        }

        int untouched() {
            int number = 0;
            for (int card = 0; card < laws.cards; card++) {
                boolean touched = false;
                for (int custom = 0; custom < laws.customs; custom++) {
                    touched = touched || appliesTo(custom, card);
                }
                number += touched ? 0 : handsWithOneCard();
            }
            return number;
        }
    }
}
