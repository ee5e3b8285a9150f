/** The edges that the document names in "Terms" and in promises 1 to 5, sentence by sentence. */
public final class TextEdgesTest {
    private static final String SURE = " says 1 == 1;";
    private static final String[] WORDS = {"pack", "trump", "custom", "lead", "follow", "discard", "when", "says", "or",
        "and", "not", "count", "suit", "rank", "led", "trick", "before", "held", "high", "low", "voids", "trumps"};

    public static void main(String[] args) {
        bytes();
        blanks();
        names();
        ints();
        signs();
        longest();
        grammar();
        goingOn();
        packs();
        severalPacks();
        trumps();
        customs();
        firstByPlace();
        leastOfOnePlace();
        theTextsEnd();
        tokensBeyond();
        customsBeyond();
        bracketsBeyond();
        meaningLast();
        twice();
        wrong();
        aFaultChangesNothing();
        aTextInPlace();
        nothingOfTheOld();
        textAfterText();
        aNewObject();
        feeding();
        takingBack();
        reading();
        places();
        Check.end("TextEdgesTest");
    }

    // ---- Terms: tokens

    private static void bytes() {
        Check.sentence("Terms", "A TEXT has 2,000 bytes at most");
        SignalTable x = new SignalTable();
        Check.tape(x, " ".repeat(1992) + "trump 2;");
        Check.due("count(7)", x.count(7), 2000);
        Check.due("read() of 2000 bytes", x.read(), 0);
        Check.due("its last one is read", x.count(3), 2);
        Check.tape(x, " ".repeat(1992) + "trump 4;");
        Check.due("read() of 2000 bytes", x.read(), 5);
        Check.due("place()", x.place(), 1998);
        Check.tape(x, " ".repeat(1995) + "trump");
        Check.due("read() of 2000 bytes", x.read(), 1);
        Check.due("place() of its end", x.place(), 2000);
    }

    private static void blanks() {
        Check.sentence("Terms", "with blanks (9, 10, 13, 32) between or not");
        for (char sign = 0; sign < 256; sign++) {
            String text = "trump" + sign + "2;";
            if (sign == 9 || sign == 10 || sign == 13 || sign == 32 || sign == '0') {
                Check.fault(text, 0, -1);
            } else if (sign >= '1' && sign <= '9') {
                Check.fault(text, 5, 5);
            } else {
                Check.fault(text, 1, sign >= 'a' && sign <= 'z' ? 0 : 5);
            }
        }
        Check.fault("\t\r\n trump\t\t2\r\r;\n\n", 0, -1);
        Check.fault("trump2;", 0, -1);
        Check.fault("custom a2lead when suit<=count0says not(1)==1and 2!=3or 4<5;", 0, -1);
    }

    private static void names() {
        Check.sentence("Terms", "NAMES (letters a .. z, 8 at most, none of the words in quotes)");
        for (int length = 1; length <= 8; length++) {
            Check.fault("custom " + "abcdefgh".substring(0, length) + " 0 lead" + SURE, 0, -1);
        }
        Check.fault("custom az 0 lead" + SURE, 0, -1);
        Check.fault("custom zzzzzzzz 0 lead" + SURE, 0, -1);
        Check.fault("custom abcdefghi 0 lead" + SURE, 1, 7);
        Check.fault("custom a{ 0 lead" + SURE, 1, 8);
        Check.fault("custom a` 0 lead" + SURE, 1, 8);
        Check.fault("custom aB 0 lead" + SURE, 1, 8);
        Check.fault("custom A 0 lead" + SURE, 1, 7);
        for (String word : WORDS) {
            Check.fault("custom " + word + " 0 lead" + SURE, 1, 7);
            Check.fault("custom " + word + "x 0 lead" + SURE, 0, -1);
            Check.fault("custom x" + word + " 0 lead" + SURE, 0, -1);
            String shorter = word.substring(0, word.length() - 1);
            if (!shorter.equals("trump")) {
                Check.fault("custom " + shorter + " 0 lead" + SURE, 0, -1);
            }
        }
    }

    private static void ints() {
        Check.sentence("Terms", "INTS (1 to 4 digits)");
        Check.fault("trump 3;", 0, -1);
        Check.fault("trump 03;", 0, -1);
        Check.fault("trump 003;", 0, -1);
        Check.fault("trump 0003;", 0, -1);
        Check.fault("trump 00003;", 1, 6);
        Check.fault("trump 9999;", 5, 6);
        Check.fault("trump 10000;", 1, 6);
        Check.fault("trump 2147483648;", 1, 6);
        Check.fault("trump 0:", 1, 7);
        holds("9999 == 9998 + 1 and 1000 == 999 + 1 and 100 == 99 + 1 and 10 == 9 + 1", true);
        holds("9999 == 1111 * 9 and 0123 == 123 and 0000 == 0", true);
        Check.fault("custom a 0 lead says 99999 == 1;", 1, 21);
    }

    /** Whether a condition holds of every first lead. */
    private static void holds(String condition, boolean due) {
        SignalTable x = Check.table("pack 1 4; custom a 0 lead says " + condition + ";");
        Check.due("openings(0, 1) by " + condition, x.openings(0, 1), due ? 4 : 0);
    }

    private static void signs() {
        Check.sentence("Terms", "SIGNS ; + - * / == != < <= ( )");
        holds("1 == 1", true);
        holds("1 == 2", false);
        holds("1 != 2", true);
        holds("1 != 1", false);
        holds("1 < 2", true);
        holds("1 < 1", false);
        holds("1 <= 1", true);
        holds("2 <= 1", false);
        holds("7 + 2 == 9 and 7 - 2 == 5 and 7 * 2 == 14 and 7 / 2 == 3 and (7) == 7", true);
        for (String sign : new String[] {"=", "!", ">", ">=", "=<", "=!", "<>", "&", "|", "%", "^", ",", ":", "[", "\""}) {
            int place = sign.equals("<>") ? 24 : 23;
            Check.fault("custom a 0 lead says 1 " + sign + " 1;", 1, place);
        }
    }

    private static void longest() {
        Check.sentence("Terms", "TOKENS, the longest that can be");
        holds("1<=1", true);
        Check.fault("custom a 0 lead says 1 < = 1;", 1, 25);
        Check.fault("custom a 0 lead says 1 <== 1;", 1, 25);
        Check.fault("custom a 0 lead says 1 === 1;", 1, 25);
        Check.fault("custom a 0 lead says 1 !== 1;", 1, 25);
        Check.fault("custom a 0 lead says 1 ! = 1;", 1, 23);
        Check.fault("custom a 0 lead says 1 == 1 orsuit == 1;", 1, 28);
        Check.fault("custom a 0 leadsays 1 == 1;", 1, 11);
        Check.fault("packtrump 1;", 1, 0);
        Check.fault("pack 1 2 ;", 5, 7);
        Check.fault("pack 12;", 1, 7);
        Check.sentence("Terms", "A longer one, all else, is no TOKEN.");
        Check.fault("custom abcdefghsays 0 lead" + SURE, 1, 7);
        Check.fault("custom a 0 lead says trumpssss == 1;", 1, 21);
        Check.fault("pack 1 40004;", 1, 7);
        Check.fault("trump 1;#", 1, 8);
        Check.fault("#", 1, 0);
        Check.fault("trump 1; " + (char) 160, 1, 9);
        Check.fault("trump 1;" + (char) 0, 1, 8);
    }

    private static void grammar() {
        Check.sentence("Terms", "text: {TELL}");
        Check.fault("", 0, -1);
        Check.fault(" ", 0, -1);
        Check.fault("trump 1; pack 2 4; trump 0; custom a 0 lead says 1 == 1; pack 4 4;", 0, -1);
        Check.sentence("Terms", "['when' COND] 'says' COND ';'");
        Check.fault("custom a 0 follow when 1 == 1 says 1 == 1;", 0, -1);
        Check.fault("custom a 0 discard says 1 == 1;", 0, -1);
        Check.fault("custom a 0 lead when says 1 == 1;", 1, 21);
        Check.fault("custom a 0 lead says 1 == 1 when 1 == 1;", 1, 28);
        Check.fault("custom a 0 lead says 1 == 1 says 1 == 1;", 1, 28);
        Check.fault("custom a 0 lead when 1 == 1;", 1, 27);
        Check.sentence("Terms", "LIT: 'not' LIT | E");
        holds("not not not not 1 == 1", true);
        holds("not not not 1 == 1", false);
        Check.fault("custom a 0 lead says not (1 == 1);", 1, 28);
        Check.fault("custom a 0 lead says 1 == not 1;", 1, 26);
        Check.sentence("Terms", "UNIT: INT | VAR | 'count' INT | '(' E ')'");
        Check.fault("custom a 0 lead says count == 1;", 1, 27);
        Check.fault("custom a 0 lead says count (1) == 1;", 1, 27);
        Check.fault("custom a 0 lead says lead == 1;", 1, 21);
        Check.fault("custom a 0 lead says -1 == 1;", 1, 21);
        Check.fault("custom a 0 lead says 1 2 == 1;", 1, 23);
        Check.fault("custom a 0 lead says () == 1;", 1, 22);
        Check.sentence("Terms", "E: PART {('+' | '-') PART}.   PART: UNIT {('*' | '/') UNIT}");
        holds("10 - 2 - 3 == 5 and 10 - (2 - 3) == 11", true);
        holds("100 / 5 / 2 == 10 and 100 / (5 / 2) == 50 and 7 / 2 * 2 == 6", true);
        holds("1 + 2 * 3 - 8 / 4 == 5", true);
        Check.sentence("Terms", "COND: ALL {'or' ALL}.   ALL: LIT {'and' LIT}");
        holds("1 == 1 or 1 == 1 and 1 == 2", true);
        holds("1 == 2 and 1 == 1 or 1 == 1", true);
        holds("1 == 2 or 1 == 2 or 1 == 1", true);
        holds("1 == 1 or 1 == 2 or 1 == 2", true);
        holds("1 == 2 or 1 == 1 or 1 == 2 or 1 == 2", true);
        holds("1 == 2 or 1 == 2 and 1 == 1 or 1 == 2", false);
        holds("1 == 1 and 1 == 1 and 1 == 2", false);
        holds("not 1 == 1 or 1 == 1", true);
    }

    /** Which tokens go on behind some beginnings; every other one is a fault at its place. */
    private static void goingOn() {
        Check.sentence("Terms", "1 SYNTAX: a TOKEN, or what is none, with which no text goes on.");
        String units = " 1 count ( suit rank led trick before held high low voids trumps ";
        String signs = " + - * / ";
        String relations = " == != < <= ";
        goesOn("", " pack trump custom ");
        goesOn("pack ", " 1 ");
        goesOn("pack 4 ", " 1 ");
        goesOn("pack 4 4 ", " ; ");
        goesOn("pack 4 4; ", " pack trump custom ");
        goesOn("trump ", " 1 ");
        goesOn("trump 1 ", " ; ");
        goesOn("trump 1; ", " pack trump custom ");
        goesOn("custom ", " zz ");
        goesOn("custom a ", " 1 ");
        goesOn("custom a 0 ", " lead follow discard ");
        for (String kind : new String[] {"lead", "follow", "discard"}) {
            String start = "custom a 0 " + kind + " ";
            goesOn(start, " when says ");
            goesOn(start + "when ", " not" + units);
            goesOn(start + "when 1 == 1 ", signs + " and or says ");
            goesOn(start + "when 1 == 1 says ", " not" + units);
        }
        String says = "custom a 0 lead says ";
        goesOn(says, " not" + units);
        goesOn(says + "not ", " not" + units);
        goesOn(says + "1 ", signs + relations);
        goesOn(says + "suit ", signs + relations);
        goesOn(says + "trumps ", signs + relations);
        goesOn(says + "count ", " 1 ");
        goesOn(says + "count 1 ", signs + relations);
        goesOn(says + "( ", units);
        goesOn(says + "( 1 ", signs + " ) ");
        goesOn(says + "( 1 ) ", signs + relations);
        goesOn(says + "1 + ", units);
        goesOn(says + "1 * ", units);
        goesOn(says + "1 == ", units);
        goesOn(says + "1 <= 1 ", signs + " and or ; ");
        goesOn(says + "1 == ( 1 ", signs + " ) ");
        goesOn(says + "1 == 1 and ", " not" + units);
        goesOn(says + "1 == 1 or ", " not" + units);
        goesOn(says + "1 == 1 or 1 < 1 ", signs + " and or ; ");
        goesOn(says + "1 == 1; ", " pack trump custom ");
    }

    private static void goesOn(String start, String with) {
        String tokens = String.join(" ", WORDS) + " ; + - * / == != < <= ( ) 1 zz = ! ? > abcdefghi 12345";
        for (String token : tokens.split(" ")) {
            String text = start + token;
            if (!with.contains(" " + token + " ")) {
                Check.fault(text, 1, start.length());
            } else if (token.equals(";")) {
                Check.fault(text, 0, -1);
            } else {
                Check.fault(text, 1, text.length());
            }
        }
    }

    // ---- Terms: what a text tells

    private static void packs() {
        Check.sentence("Terms", "SUITS (1 .. 4) and RANKS (1 .. 16) of each: 16 CARDS at most, a number that 4 divides");
        for (int suits = 0; suits <= 5; suits++) {
            for (int ranks = 0; ranks <= 18; ranks++) {
                String text = "pack " + suits + " " + ranks + ";";
                int cards = suits * ranks;
                if (suits < 1 || suits > 4) {
                    Check.fault(text, 5, 5);
                } else if (ranks < 1 || ranks > 16 || cards > 16 || cards % 4 != 0) {
                    Check.fault(text, 5, 7);
                } else {
                    SignalTable x = Check.table(text);
                    Check.due(text + " count(0)", x.count(0), suits);
                    Check.due(text + " count(1)", x.count(1), ranks);
                    Check.due(text + " count(2)", x.count(2), cards / 4);
                }
            }
        }
        Check.fault("pack 9999 4;", 5, 5);
        Check.fault("pack 4 9999;", 5, 7);
    }

    private static void severalPacks() {
        Check.sentence("Terms", "4 and 4 if not told; of several the last one told");
        size("", 4, 4, 4);
        size("trump 1;", 4, 4, 4);
        size("pack 2 4;", 2, 4, 2);
        size("pack 2 4; pack 1 12;", 1, 12, 3);
        size("pack 1 16; trump 0; pack 4 1;", 4, 1, 1);
        Check.sentence("Terms", "CARD SUIT * RANKS + RANK, RANK 0 the lowest");
        SignalTable x = Check.table("pack 3 4; custom a 2 lead says suit == 1 and rank == 2;"
                + "custom b 2 lead says suit == 2 and rank == 0; custom c 2 lead says suit == 0 and rank == 3;");
        x.hands(1 << 6 | 1 << 8 | 1 << 3, 7, 1 << 4 | 1 << 5 | 1 << 7);
        Check.due("lies(6)", x.lies(6), 6);
        Check.due("lies(8)", x.lies(8), 5);
        Check.due("lies(3)", x.lies(3), 3);
    }

    private static void size(String text, int suits, int ranks, int hand) {
        SignalTable x = Check.table(text);
        Check.due(text + " count(0)", x.count(0), suits);
        Check.due(text + " count(1)", x.count(1), ranks);
        Check.due(text + " count(2)", x.count(2), hand);
    }

    private static void trumps() {
        Check.sentence("Terms", "TRUMP: a SUIT (0 .. 3; a SUIT that there is not is as none)");
        for (int suits = 1; suits <= 4; suits++) {
            for (int trump = 0; trump <= 3; trump++) {
                int due = trump < suits ? trump : -2;
                trump("pack " + suits + " 4; trump " + trump + ";", due);
                trump("trump " + trump + "; pack " + suits + " 4;", due);
            }
        }
        SignalTable x = Check.table("pack 2 2; trump 2;");
        x.hands(2, 1, 4);
        for (int card : new int[] {1, 0, 2, 3}) {
            x.play(card);
        }
        Check.due("as none: the led suit wins", x.winner(0), 0);
        Check.sentence("Terms", "none if not told; of several the last one told");
        trump("", -2);
        trump("pack 2 4;", -2);
        trump("trump 3; trump 0;", 0);
        trump("trump 0; trump 3;", 3);
        trump("pack 2 4; trump 0; trump 3;", -2);
        trump("pack 2 4; trump 3; trump 1;", 1);
    }

    private static void trump(String text, int due) {
        Check.due(text + " count(3)", Check.table(text).count(3), due);
    }

    private static void customs() {
        Check.sentence("Terms", "CUSTOMS, 6 at most, are numbered from 0 on: of SIDE 0, 1 or 2 (both), of a KIND: 0 lead, "
                + "1 follow, 2 discard.");
        String[] kinds = {"lead", "follow", "discard"};
        for (int shift = 0; shift < 9; shift++) {
            StringBuilder text = new StringBuilder();
            for (int i = 0; i < 6; i++) {
                int k = (i + shift) % 9;
                text.append("custom " + (char) ('a' + i) + " " + k / 3 + " " + kinds[k % 3] + SURE);
            }
            SignalTable x = Check.table(text.toString());
            Check.due("count(4)", x.count(4), 6);
            for (int i = 0; i < 6; i++) {
                int k = (i + shift) % 9;
                Check.due("count(" + (10 + i) + ")", x.count(10 + i), 10 * (k / 3) + k % 3);
            }
            Check.due("count(16)", x.count(16), -1);
        }
        Check.due("no custom: count(4)", new SignalTable().count(4), 0);
        Check.due("no custom: count(10)", new SignalTable().count(10), -1);
    }

    // ---- Terms: faults

    private static void firstByPlace() {
        Check.sentence("Terms", "FAULTS of a text, the first by its place");
        Check.fault("custom a 0 lead says (((((((1 ;", 2, 27);
        Check.fault("custom a 0 lead says 1 ; (((((((", 1, 23);
        Check.fault("trump x; trump y;", 1, 6);
        Check.fault("pack 4 4;".repeat(100) + "pack x", 2, 900);
        Check.fault("pack 4 4;".repeat(99) + "pack x 4;" + "pack 4 4;", 1, 896);
        Check.fault("trump 4; trump 5;", 5, 6);
        Check.fault("pack 5 17; trump 4;", 5, 5);
    }

    private static void leastOfOnePlace() {
        Check.sentence("Terms", "of one place the least: 1 SYNTAX: a TOKEN, or what is none, with which no text goes on.");
        String packs = "pack 4 4;".repeat(100);
        Check.fault(packs + "x", 1, 900);
        Check.fault(packs + ";", 1, 900);
        Check.fault(packs + "4", 1, 900);
        Check.fault(packs + "?", 1, 900);
        Check.fault(packs + "custom", 2, 900);
        Check.fault("custom a 0 lead says ((((((1 (", 1, 29);
        Check.fault(sixCustoms() + "lead", 1, 168);
    }

    private static void theTextsEnd() {
        Check.sentence("Terms", "(a byte; the text's end: its length)");
        Check.fault("pack", 1, 4);
        Check.fault("pack ", 1, 5);
        Check.fault("pack 4", 1, 6);
        Check.fault("pack 4 4", 1, 8);
        Check.fault("pack 4 4\n\n\n", 1, 11);
        String text = "custom a 0 lead when not suit == count 1 and 1 < 2 says (1) <= 1;";
        for (int length = 1; length < text.length(); length++) {
            String cut = text.substring(0, length);
            char last = text.charAt(length - 1);
            char next = text.charAt(length);
            boolean inWord = last >= 'a' && last <= 'z' && next >= 'a' && next <= 'z';
            boolean half = last == '=' && next == '=';
            if (!inWord && !half) {
                Check.fault(cut, 1, length);
            }
        }
        Check.fault(text, 0, -1);
    }

    private static void tokensBeyond() {
        Check.sentence("Terms", "2 ROOM: a 401st TOKEN");
        String packs = "pack 4 4;".repeat(100);
        Check.fault(packs, 0, -1);
        Check.fault(packs + " \n\t\r", 0, -1);
        Check.fault(packs + "trump", 2, 900);
        Check.fault(packs + "\n\npack 4 4;", 2, 902);
        Check.fault("trump 0;".repeat(133) + "trump", 1, 1069);
        Check.fault("trump 0;".repeat(133) + "trump 0", 2, 1070);
        Check.fault("trump 0;".repeat(133) + "trump 4;", 2, 1070);
        String custom = "custom a 0 lead says 1 == 1" + "+1".repeat(195);
        Check.fault(custom + ";;", 1, custom.length() + 1);
        String full = custom.replace("says", "says not");
        Check.fault(full + ";", 0, -1);
        Check.fault(full, 1, full.length());
        Check.fault(full + ";;", 1, full.length() + 1);
        Check.fault(full + "+", 1, full.length() + 1);
        Check.fault(full + ";trump", 2, full.length() + 1);
        Check.fault(full + "==", 1, full.length());
        Check.fault(full + "+1;", 2, full.length() + 1);
        Check.fault(full.replace("not", "not not") + ";", 2, full.length() + 4);
        nots(391, 0, -1);
        nots(392, 2, 21 + 392 * 4 + 6);
        nots(393, 2, 21 + 393 * 4 + 5);
        nots(394, 2, 21 + 394 * 4 + 2);
        nots(395, 2, 21 + 395 * 4);
        nots(396, 2, 21 + 395 * 4);
    }

    private static void nots(int number, int fault, int place) {
        Check.fault("custom a 0 lead says " + "not ".repeat(number) + "1 == 1;", fault, place);
    }

    private static String sixCustoms() {
        StringBuilder six = new StringBuilder();
        for (char c = 'a'; c < 'g'; c++) {
            six.append("custom " + c + " 0 lead" + SURE);
        }
        return six.toString();
    }

    private static void customsBeyond() {
        Check.sentence("Terms", "a 7th custom (at its first TOKEN)");
        String six = sixCustoms();
        Check.fault(six, 0, -1);
        Check.fault(six + "trump 1; pack 2 4;", 0, -1);
        Check.fault(six + " custom g 1 follow" + SURE, 2, 169);
        Check.fault(six + "custom", 2, 168);
        Check.fault(six + "custom a", 2, 168);
        Check.fault(six + "trump 1;custom 5", 2, 176);
        Check.fault(six.substring(0, 140) + "custom f", 1, 148);
    }

    private static void bracketsBeyond() {
        Check.sentence("Terms", "a 7th ( within one another (at it)");
        Check.fault("custom a 0 lead says ((((((1)))))) == 1;", 0, -1);
        Check.fault("custom a 0 lead says (((((((1))))))) == 1;", 2, 27);
        Check.fault("custom a 0 lead says (((((((", 2, 27);
        Check.fault("custom a 0 lead says 1 == (((((((1)))))));", 2, 32);
        Check.fault("custom a 0 lead when ((((((1 + (1))))))) == 1 says 1 == 1;", 2, 31);
        Check.fault("custom a 0 lead says (1) + (1) + (1) + (1) + (1) + (1) + (1) == 7;", 0, -1);
        Check.fault("custom a 0 lead says ((((((1)))))) * ((((((1)))))) == ((((((1)))))) and ((((((1)))))) == 1;", 0, -1);
        Check.fault("custom a 0 lead says (((((1) + (1) + (1)))))) == 3;", 1, 44);
        Check.fault("custom a 0 lead says ((((((1) + (1) + (1)))))) == 3;", 0, -1);
        Check.fault("custom a 0 lead says ((((((1) + (1) + ((1))))))) == 3;", 2, 39);
    }

    private static void meaningLast() {
        Check.sentence("Terms", "If there is none, likewise");
        Check.fault("trump 4; x", 1, 9);
        Check.fault("trump 4; trump", 1, 14);
        Check.fault("pack 5 5;" + sixCustoms() + "custom", 2, 177);
        Check.fault("custom a 0 lead" + SURE + "custom a 0 lead says (((((((1))))))) == 1;", 2, 55);
        Check.fault("custom a 3 lead" + SURE + "custom a 0 lead" + SURE, 5, 9);
        Check.fault("custom a 0 lead" + SURE + "custom a 3 lead" + SURE, 3, 35);
        Check.fault("trump 4;" + "custom a 0 lead" + SURE + "custom a 0 lead" + SURE, 5, 6);
    }

    private static void twice() {
        Check.sentence("Terms", "3 TWICE: a NAME told already");
        Check.fault("custom a 0 lead" + SURE + "custom a 1 follow" + SURE, 3, 35);
        Check.fault("custom a 0 lead" + SURE + "custom b 0 lead" + SURE + "custom a 0 lead" + SURE, 3, 63);
        Check.fault("custom a 0 lead" + SURE + "custom b 0 lead" + SURE + "custom b 0 lead" + SURE, 3, 63);
        Check.fault("custom a 0 lead" + SURE + "custom aa 0 lead" + SURE, 0, -1);
        Check.fault("custom aa 0 lead" + SURE + "custom a 0 lead" + SURE, 0, -1);
        Check.fault("custom abcdefgh 0 lead" + SURE + "custom abcdefgi 0 lead" + SURE, 0, -1);
        Check.fault("custom bbcdefgh 0 lead" + SURE + "custom abcdefgh 0 lead" + SURE, 0, -1);
        Check.fault("custom abcdefgh 0 lead" + SURE + "custom abcdefgh 0 lead" + SURE, 3, 42);
        Check.fault(sixCustoms().replace("custom f", "custom a"), 3, 147);
        SignalTable x = Check.table("custom a 0 lead" + SURE);
        Check.tape(x, "custom a 1 lead" + SURE);
        Check.due("told in the text ahead: read()", x.read(), 0);
        Check.tape(x, "custom b 3 lead" + SURE);
        Check.due("read()", x.read(), 5);
        Check.tape(x, "custom b 1 lead" + SURE);
        Check.due("told in a text with a fault: read()", x.read(), 0);
    }

    private static void wrong() {
        Check.sentence("Terms", "5 WRONG (at the INT): SUITS not 1 .. 4, RANKS not 1 .. 16");
        Check.fault("pack 0 4;", 5, 5);
        Check.fault("pack 5 4;", 5, 5);
        Check.fault("pack 0 0;", 5, 5);
        Check.fault("pack 5 17;", 5, 5);
        Check.fault("pack 4 0;", 5, 7);
        Check.fault("pack 1 17;", 5, 7);
        Check.fault("pack  0004   0000;", 5, 13);
        Check.sentence("Terms", "at RANKS if all is well with both but there are more than 16 CARDS or 4 does not divide them");
        Check.fault("pack 4 5;", 5, 7);
        Check.fault("pack 2 10;", 5, 7);
        Check.fault("pack 4 16;", 5, 7);
        Check.fault("pack 3 3;", 5, 7);
        Check.fault("pack 1 1;", 5, 7);
        Check.fault("pack 1 15;", 5, 7);
        Check.fault("pack 1 2; pack 4 4;", 5, 7);
        Check.sentence("Terms", "a TRUMP above 3, a SIDE above 2, a SUIT of count above 3");
        Check.fault("trump 3;", 0, -1);
        Check.fault("trump 4;", 5, 6);
        Check.fault("custom a 2 lead" + SURE, 0, -1);
        Check.fault("custom a 3 lead" + SURE, 5, 9);
        Check.fault("custom a 9999 lead" + SURE, 5, 9);
        Check.fault("pack 1 4; custom a 0 lead says count 3 == 0;", 0, -1);
        Check.fault("custom a 0 lead says count 4 == 0;", 5, 27);
        Check.fault("custom a 0 lead when (count 9999) == 0" + SURE, 5, 28);
    }

    private static SignalTable busy() {
        SignalTable x = Check.table("pack 1 4; trump 0; custom a 2 lead says rank == 3; custom b 1 follow says rank < 2;");
        x.hands(8, 4, 2);
        for (int card : new int[] {3, 2, 1, 0}) {
            x.play(card);
        }
        x.book();
        x.hold(1);
        x.hands(1, 2, 4);
        x.lead(2);
        x.play(2);
        return x;
    }

    private static void aFaultChangesNothing() {
        Check.sentence("Terms", "A text with a FAULT changes nothing but the tape");
        String[] texts = {"pack 2 4; trump 1; custom c 0 lead says 1 == 1; ?", "pack 2 4;" + sixCustoms() + "custom",
            "pack 2 4; trump 1;" + sixCustoms().replace("custom f", "custom a"), "trump 1; pack 2 5;"};
        int[] faults = {1, 2, 3, 5};
        for (int i = 0; i < texts.length; i++) {
            SignalTable x = busy();
            String before = Seen.of(x);
            Check.tape(x, texts[i]);
            Check.due("read() of " + texts[i], x.read(), faults[i]);
            Check.due("the tape: count(7)", x.count(7), 0);
            Check.due("what is seen", Seen.of(x).replaceAll("place \\d+", "place -1"), before);
            Check.due("gap()", x.gap(), 0);
            Check.due("openings(0, 1)", x.openings(0, 1), 1);
            Check.due("restore(1)", x.restore(1), true);
            Check.due("what it held", x.card(0, 0), 3);
        }
    }

    private static void aTextInPlace() {
        Check.sentence("Terms", "else it is in place of the one ahead: nothing is dealt, no BOOK is kept, SLOTS hold nothing");
        for (String text : new String[] {"", "trump 0;", "pack 1 4;"}) {
            SignalTable x = busy();
            x.hold(0);
            Check.tape(x, text);
            Check.due("read()", x.read(), 0);
            Check.due("as on a new object, with " + text, Seen.of(x), Seen.of(Check.table(text)));
            Check.due("no custom", x.count(4), 0);
            Check.due("nothing is dealt", x.count(5), -2);
            Check.due("no book", x.count(6), 0);
            Check.due("no slot", x.count(8), 0);
            Check.due("restore(0)", x.restore(0), false);
            Check.due("restore(1)", x.restore(1), false);
            Check.due("open()", x.open(), -2);
            Check.due("kept(1)", x.kept(1), -1);
        }
    }

    private static void nothingOfTheOld() {
        Check.sentence("Terms", "it is in place of the one ahead: nothing is dealt");
        SignalTable x = Check.table("pack 2 4; trump 1; custom a 2 lead says 1 == 2;");
        x.hands(17, 34, 136);
        for (int card : new int[] {0, 5, 3, 2}) {
            x.revoke(card);
        }
        Check.due("a revoke: revokes(0)", x.revokes(0), 1);
        x.read();
        Check.due("card(0, 0)", x.card(0, 0), -1);
        Check.due("says(0, 0, 0)", x.says(0, 0, 0), -1);
        Check.due("winner(0)", x.winner(0), -1);
        Check.due("tricks(0)", x.tricks(0), 0);
        Check.due("tricks(1)", x.tricks(1), 0);
        Check.due("revokes(0)", x.revokes(0), 0);
        Check.due("undo()", x.undo(), -1);
        Check.due("play(1)", x.play(1), -1);
        Check.due("lead(1)", x.lead(1), false);
        Check.due("hold(0)", x.hold(0), false);
        Check.due("line(0)", x.line(0), -1);
        Check.due("lies(1)", x.lies(1), -1);
        Check.due("hand(0, true)", x.hand(0, true), -1);
        Check.due("canBe(0, 0)", x.canBe(0, 0), -1);
    }

    private static void textAfterText() {
        Check.sentence("Terms", "else it is in place of the one ahead");
        SignalTable x = new SignalTable();
        for (int i = 0; i < 20; i++) {
            Check.tape(x, "pack 1 4; custom a 0 lead says rank" + "+1".repeat(60) + " == " + (60 + i % 4) + ";");
            Check.due("read() of text " + i, x.read(), 0);
            Check.due("openings(0, 1) by text " + i, x.openings(0, 1), 1);
        }
        Check.tape(x, "pack 1 4; custom a 0 lead says 1 == 1" + "+0".repeat(190) + ";");
        Check.due("read()", x.read(), 0);
        Check.due("openings(0, 1)", x.openings(0, 1), 4);
    }

    // ---- promises 1 to 5

    private static void aNewObject() {
        Check.sentence("The public face", "public static final int NONE = -1");
        Check.due("NONE", SignalTable.NONE, -1);
        Check.sentence("Promise 1", "As if an empty text had been read.");
        SignalTable x = new SignalTable();
        String made = Seen.of(x);
        Check.due("what is seen", made.startsWith("counts 4 4 4 -2 0 -2 0 0 0 -1 -1"), true);
        Check.due("read()", x.read(), 0);
        Check.due("an empty text", Seen.of(x), made);
        x = busy();
        x.read();
        Check.due("an empty text behind another", Seen.of(x), made);
        x = new SignalTable();
        Check.due("place()", x.place(), -1);
        Check.due("gap()", x.gap(), 7280);
        Check.due("kept(0)", x.kept(0), 0);
        Check.due("deal(1)", x.deal(1), true);
    }

    private static void feeding() {
        int blank = 0x20202020;
        Check.sentence("Promise 2", "Twenty bytes, the highest of a first, come behind the tape: how many it has.");
        SignalTable x = new SignalTable();
        Check.due("feed", x.feed(0x7061636b, 0x20322034, 0x3b207472, 0x756d7020, 0x313b2020), 20);
        Check.due("feed", x.feed(0x74727570, 0x20332020, blank, blank, blank), 40);
        Check.due("read()", x.read(), 1);
        Check.due("place(): trup", x.place(), 20);
        x.feed(0x7061636b, 0x20322034, 0x3b207472, 0x756d7020, 0x313b2020);
        Check.due("read()", x.read(), 0);
        Check.due("count(3)", x.count(3), 1);
        Check.due("feed of bytes above 127", x.feed(0xa0a0a0a0, -1, -1, -1, 0x80808080), 20);
        Check.due("read()", x.read(), 1);
        Check.sentence("Promise 2", "NONE, and nothing comes, if it would have more than 2,000.");
        Check.tape(x, " ".repeat(1972) + "trump 2;");
        Check.due("count(7)", x.count(7), 1980);
        Check.due("feed", x.feed(blank, blank, blank, blank, blank), 2000);
        Check.due("feed at 2000", x.feed(-1, -1, -1, -1, -1), -1);
        Check.due("count(7)", x.count(7), 2000);
        Check.due("back(19)", x.back(19), 1981);
        Check.due("feed at 1981", x.feed(-1, -1, -1, -1, -1), -1);
        Check.due("count(7)", x.count(7), 1981);
        Check.due("read(): nothing came", x.read(), 0);
        Check.due("count(3)", x.count(3), 2);
        Check.due("feed of an empty tape", x.feed(blank, blank, blank, blank, blank), 20);
    }

    private static void takingBack() {
        Check.sentence("Promise 3", "The last n bytes of the tape go: how many it has.");
        SignalTable x = new SignalTable();
        Check.tape(x, "trump 2;trump 3;");
        Check.due("back(0)", x.back(0), 16);
        Check.due("back(8)", x.back(8), 8);
        Check.due("read()", x.read(), 0);
        Check.due("the last ones went", x.count(3), 2);
        Check.tape(x, "trump 2;trump 3;");
        Check.due("back(16): all", x.back(16), 0);
        Check.tape(x, "trump 1;");
        Check.due("what comes behind", x.count(7), 8);
        Check.due("read()", x.read(), 0);
        Check.due("count(3)", x.count(3), 1);
        takenBack("trump 1; trumpet", 7, 0, -1);
        takenBack("trump 1; trumpet", 2, 1, 14);
        takenBack("trump 12345", 1, 1, 10);
        takenBack("trump 12;", 2, 1, 7);
        takenBack("trump 1;", 1, 1, 7);
        takenBack("custom a 0 lead says 1 == 1;", 4, 1, 23);
        takenBack("custom a 0 lead says 1 <= 1;", 4, 1, 24);
        takenBack("pack 2 45;trump 9;", 8, 5, 7);
        Check.sentence("Promise 3", "NONE, and nothing goes, if it has not so many, or n is below 0.");
        Check.due("back(1) of an empty tape", x.back(1), -1);
        Check.due("back(0) of an empty tape", x.back(0), 0);
        Check.tape(x, "trump 0;");
        Check.due("back(9)", x.back(9), -1);
        Check.due("back(-1)", x.back(-1), -1);
        Check.due("back(MAX)", x.back(Integer.MAX_VALUE), -1);
        Check.due("back(MIN)", x.back(Integer.MIN_VALUE), -1);
        Check.due("count(7)", x.count(7), 8);
        Check.due("read()", x.read(), 0);
        Check.due("count(3)", x.count(3), 0);
    }

    /** What went is not read, although it may still be there somewhere. */
    private static void takenBack(String text, int n, int number, int place) {
        SignalTable x = new SignalTable();
        Check.tape(x, text);
        Check.due("back(" + n + ")", x.back(n), text.length() - n);
        Check.due("read() of " + text + " less " + n, x.read(), number);
        Check.due("its place", x.place(), place);
    }

    private static void reading() {
        Check.sentence("Promise 4", "The tape, which is empty then, is read: 0, or the number of its FAULT.");
        SignalTable x = new SignalTable();
        Check.tape(x, "trump 2;");
        Check.due("read()", x.read(), 0);
        Check.due("count(7)", x.count(7), 0);
        Check.due("read() of the empty tape", x.read(), 0);
        Check.due("an empty text is in place of it", x.count(3), -2);
        Check.tape(x, "trump 4;");
        Check.due("read()", x.read(), 5);
        Check.due("count(7)", x.count(7), 0);
        Check.due("read() of the empty tape", x.read(), 0);
        for (int i = 0; i < 100; i++) {
            Check.tape(x, "trump " + i % 5 + ";");
            Check.due("read() again and again", x.read(), i % 5 == 4 ? 5 : 0);
        }
    }

    private static void places() {
        Check.sentence("Promise 5", "The byte of the latest read()'s FAULT; NONE without.");
        SignalTable x = new SignalTable();
        Check.due("no read() yet", x.place(), -1);
        Check.tape(x, "?");
        x.read();
        Check.due("at the first byte", x.place(), 0);
        x.deal(1);
        x.feed(0, 0, 0, 0, 0);
        Check.due("still", x.place(), 0);
        x.back(19);
        x.read();
        Check.due("again", x.place(), 0);
        Check.tape(x, "pack 5 4;");
        x.read();
        Check.due("a later one", x.place(), 5);
        Check.tape(x, "pack 4");
        x.read();
        Check.due("at the end", x.place(), 6);
        x.read();
        Check.due("without", x.place(), -1);
    }
}
