/** Promises 1 to 5: a new object, the tape, reading, faults and their places; and what conditions mean. */
public final class TextTest {
    private static final String SURE = " says 1 == 1;";

    public static void main(String[] args) {
        aNewObject();
        theTape();
        theTapesEnd();
        syntax();
        tokens();
        room();
        meaning();
        whatAFaultLeaves();
        whatAReadEnds();
        conditions();
        Check.end("TextTest");
    }

    private static void aNewObject() {
        SignalTable x = new SignalTable();
        int[] due = {4, 4, 4, -2, 0, -2, 0, 0, 0, -1, -1};
        for (int what = 0; what < due.length; what++) {
            Check.due("new: count(" + what + ")", x.count(what), due[what]);
        }
        Check.due("new: place()", x.place(), -1);
        Check.due("new: turn()", x.turn(), -2);
        Check.due("new: kept(0)", x.kept(0), 0);
        Check.due("new: restore(0)", x.restore(0), false);
    }

    private static void theTape() {
        SignalTable x = new SignalTable();
        Check.due("feed", x.feed(0x7472756d, 0x7020323b, 0x20202020, 0x20202020, 0x20202020), 20);
        Check.due("back(-1)", x.back(-1), -1);
        Check.due("back(21)", x.back(21), -1);
        Check.due("back(0)", x.back(0), 20);
        Check.due("back(12)", x.back(12), 8);
        Check.due("count(7)", x.count(7), 8);
        Check.due("read() of 'trump 2;'", x.read(), 0);
        Check.due("count(3)", x.count(3), 2);
        Check.due("the tape is empty then", x.count(7), 0);
        Check.due("back(1) of an empty tape", x.back(1), -1);
        Check.due("back(0) of an empty tape", x.back(0), 0);
        Check.due("back(MIN)", x.back(Integer.MIN_VALUE), -1);
        Check.due("back(MAX)", x.back(Integer.MAX_VALUE), -1);
        Check.due("feed of high bytes", x.feed(-1, -1, -1, -1, -1), 20);
        Check.due("read() of them", x.read(), 1);
        Check.due("place()", x.place(), 0);
    }

    private static void theTapesEnd() {
        SignalTable x = new SignalTable();
        int blank = 0x20090a0d;
        for (int i = 1; i <= 100; i++) {
            Check.due("feed " + i, x.feed(blank, blank, blank, blank, blank), 20 * i);
        }
        Check.due("feed beyond 2000", x.feed(blank, blank, blank, blank, blank), -1);
        Check.due("count(7)", x.count(7), 2000);
        Check.due("back(19)", x.back(19), 1981);
        Check.due("feed beyond 2000", x.feed(blank, blank, blank, blank, blank), -1);
        Check.due("back(1)", x.back(1), 1980);
        Check.due("feed up to 2000", x.feed(blank, blank, blank, blank, 0x20202078), 2000);
        Check.due("read() of blanks and an x", x.read(), 1);
        Check.due("place() of the x", x.place(), 1999);
    }

    private static void syntax() {
        Check.fault("", 0, -1);
        Check.fault(" \t\n\r ", 0, -1);
        Check.fault("pack 4 4;trump 0;", 0, -1);
        Check.fault("pack 4 4", 1, 8);
        Check.fault("pack 4 4  ", 1, 10);
        Check.fault("pack 4;", 1, 6);
        Check.fault("pack ;", 1, 5);
        Check.fault("pack", 1, 4);
        Check.fault("trump;", 1, 5);
        Check.fault("trump 1 1;", 1, 8);
        Check.fault(";", 1, 0);
        Check.fault("trump 1;;", 1, 8);
        Check.fault("lead", 1, 0);
        Check.fault("custom", 1, 6);
        Check.fault("custom 1", 1, 7);
        Check.fault("custom lead 0 lead says 1 == 1;", 1, 7);
        Check.fault("custom count 0 lead says 1 == 1;", 1, 7);
        Check.fault("custom a lead says 1 == 1;", 1, 9);
        Check.fault("custom a 0 says 1 == 1;", 1, 11);
        Check.fault("custom a 0 when 1 == 1;", 1, 11);
        Check.fault("custom a 0 lead;", 1, 15);
        Check.fault("custom a 0 lead when 1 == 1;", 1, 27);
        Check.fault("custom a 0 lead when 1 == 1 when", 1, 28);
        Check.fault("custom a 0 lead says 1;", 1, 22);
        Check.fault("custom a 0 lead says 1 == ;", 1, 26);
        Check.fault("custom a 0 lead says 1 ==", 1, 25);
        Check.fault("custom a 0 lead says 1 <=", 1, 25);
        Check.fault("custom a 0 lead says 1 <", 1, 24);
        Check.fault("custom a 0 lead says 1 !", 1, 23);
        Check.fault("custom a 0 lead says 1 == 1 == 1;", 1, 28);
        Check.fault("custom a 0 lead says 1 == 1 and;", 1, 31);
        Check.fault("custom a 0 lead says 1 == 1 not 1 == 1;", 1, 28);
        Check.fault("custom a 0 lead says (1 == 1);", 1, 24);
        Check.fault("custom a 0 lead says (1 + 2 == 3;", 1, 28);
        Check.fault("custom a 0 lead says 1) == 1;", 1, 22);
        Check.fault("custom a 0 lead says () == 1;", 1, 22);
        Check.fault("custom a 0 lead says - 1 == 1;", 1, 21);
        Check.fault("custom a 0 lead says 1 + == 1;", 1, 25);
        Check.fault("custom a 0 lead says count suit == 1;", 1, 27);
        Check.fault("custom a 0 lead says b == 1;", 1, 21);
        Check.fault("custom a 0 lead says not == 1;", 1, 25);
        Check.fault("custom a 0 lead says 1 == 1", 1, 27);
        Check.fault("custom a 0 lead says not not not 1 == 1 or not 2 < 1 and 1 <= (2 - 1) * 3 / 4;", 0, -1);
    }

    private static void tokens() {
        Check.fault("pack4 4;", 0, -1);
        Check.fault("custom a0lead says1==1;", 0, -1);
        Check.fault("customa 0 lead says 1 == 1;", 1, 0);
        Check.fault("pack 4 44444;", 1, 7);
        Check.fault("pack 0004 0004;", 0, -1);
        Check.fault("pack 00004 4;", 1, 5);
        Check.fault("custom abcdefgh 0 lead" + SURE, 0, -1);
        Check.fault("custom abcdefghi 0 lead" + SURE, 1, 7);
        Check.fault("abcdefghijklmnop", 1, 0);
        Check.fault("Pack 4 4;", 1, 0);
        Check.fault("pack 4 4;.", 1, 9);
        Check.fault("pack 4\0004;", 1, 6);
        Check.fault("pack 4\0144;", 1, 6);
        Check.fault("custom a 0 lead says 1 = 1;", 1, 23);
        Check.fault("custom a 0 lead says 1 ! = 1;", 1, 23);
        Check.fault("custom a 0 lead says 1 = = 1;", 1, 23);
        Check.fault("custom a 0 lead says 1 <== 1;", 1, 25);
        Check.fault("custom a 0 lead says 1 === 1;", 1, 25);
        Check.fault("custom a 0 lead says 1 << 1;", 1, 24);
        Check.fault("custom a 0 lead says 1 > 1;", 1, 23);
        Check.fault("custom a 0 lead says 1<1;", 0, -1);
    }

    private static void room() {
        String packs = "pack 4 4;".repeat(100);
        Check.fault(packs, 0, -1);
        Check.fault(packs + "pack", 2, 900);
        Check.fault(packs + "  trump 1;", 2, 902);
        Check.fault(packs + ";", 1, 900);
        Check.fault(packs + "abcdefghi", 1, 900);
        Check.fault("trump 0;".repeat(134), 2, 133 * 8 + 6);
        Check.fault("trump 0;".repeat(133) + "trump", 1, 133 * 8 + 5);
        StringBuilder six = new StringBuilder();
        for (char c = 'a'; c < 'g'; c++) {
            six.append("custom " + c + " 0 lead" + SURE);
        }
        Check.fault(six.toString(), 0, -1);
        Check.fault(six + "custom g 0 lead" + SURE, 2, 6 * 28);
        Check.fault(six + "custom", 2, 6 * 28);
        Check.fault(six + "x custom", 1, 6 * 28);
        Check.fault(six + "trump 9; custom a", 2, 6 * 28 + 9);
        Check.fault("custom a 0 lead says ((((((1)))))) == (1);", 0, -1);
        Check.fault("custom a 0 lead says (((((((1))))))) == 1;", 2, 27);
        Check.fault("custom a 0 lead says ((((((1+(1)))))) == 1;", 2, 29);
        Check.fault("custom a 0 lead says ((((((1))))))+(1) < (((1)))*((((((2))))));", 0, -1);
        Check.fault("custom a 0 lead says ((((((1 (", 1, 29);
    }

    private static void meaning() {
        Check.fault("pack 0 4;", 5, 5);
        Check.fault("pack 5 1;", 5, 5);
        Check.fault("pack 5 17;", 5, 5);
        Check.fault("pack 4 0;", 5, 7);
        Check.fault("pack 1 17;", 5, 7);
        Check.fault("pack 4 5;", 5, 7);
        Check.fault("pack 3 3;", 5, 7);
        Check.fault("pack 2 9;", 5, 7);
        Check.fault("pack 1 5;", 5, 7);
        Check.fault("pack 1 1;", 5, 7);
        Check.fault("pack 4 4; pack 1 6;", 5, 17);
        Check.fault("pack 3 4;", 0, -1);
        Check.fault("pack 1 16;", 0, -1);
        Check.fault("pack 4 1;", 0, -1);
        Check.fault("pack 3 3; pack 4 4;", 5, 7);
        Check.fault("trump 3;", 0, -1);
        Check.fault("trump 4;", 5, 6);
        Check.fault("custom a 2 lead" + SURE, 0, -1);
        Check.fault("custom a 3 lead" + SURE, 5, 9);
        Check.fault("custom a 0 lead says count 3 == 1;", 0, -1);
        Check.fault("custom a 0 lead says count 4 == 1;", 5, 27);
        Check.fault("custom a 0 lead when count 4 == 1" + SURE, 5, 27);
        Check.fault("custom a 0 lead" + SURE + "custom a 1 lead" + SURE, 3, 35);
        Check.fault("custom a 0 lead" + SURE + "custom a 3 lead" + SURE, 3, 35);
        Check.fault("custom a 3 lead" + SURE + "custom a 1 lead" + SURE, 5, 9);
        Check.fault("custom a 0 lead" + SURE + "custom ab 1 lead" + SURE, 0, -1);
        Check.fault("trump 4; pack 5 1;", 5, 6);
        Check.fault("trump 4; x", 1, 9);
        Check.fault("trump 4; trump", 1, 14);
    }

    private static void whatAFaultLeaves() {
        SignalTable x = Check.table("pack 2 4; trump 1; custom a 1 follow" + SURE);
        x.deal(3);
        x.hold(1);
        x.play(Integer.numberOfTrailingZeros(x.may()));
        Check.tape(x, "pack 1 4; custom b 0 lead" + SURE + "trump 9;");
        Check.due("read() with a fault", x.read(), 5);
        Check.due("its place", x.place(), 44);
        int[] due = {2, 4, 2, 1, 1, 1, 0, 0, 1, -1, 11, -1};
        for (int what = 0; what < due.length; what++) {
            Check.due("behind a fault: count(" + what + ")", x.count(what), due[what]);
        }
        Check.due("read() of nothing", x.read(), 0);
        Check.due("its place", x.place(), -1);
        Check.due("an empty text is a text: count(0)", x.count(0), 4);
        Check.due("an empty text is a text: count(3)", x.count(3), -2);
        Check.due("an empty text is a text: count(4)", x.count(4), 0);
    }

    private static void whatAReadEnds() {
        SignalTable x = Check.table("pack 1 4;");
        x.hands(1, 2, 4);
        for (int card = 0; card < 4; card++) {
            x.play(card);
        }
        Check.due("book()", x.book(), 0);
        Check.due("hold(0)", x.hold(0), true);
        Check.tape(x, "pack 1 4; trump 0; pack 2 2; trump 1;");
        Check.due("read()", x.read(), 0);
        Check.due("the last pack: count(0)", x.count(0), 2);
        Check.due("the last trump: count(3)", x.count(3), 1);
        Check.due("nothing is dealt", x.count(5), -2);
        Check.due("no book", x.count(6), 0);
        Check.due("no slot", x.count(8), 0);
        Check.due("restore(0)", x.restore(0), false);
        Check.due("turn()", x.turn(), -2);
    }

    /** Of the 56 first leads from a pack of 2 and 4 those for which a condition is true. */
    private static void says(String condition, int due) {
        SignalTable x = Check.table("pack 2 4; trump 1; custom a 0 lead says " + condition + ";");
        Check.due("openings by " + condition, x.openings(0, 1), due);
    }

    private static void applies(String condition, int due) {
        SignalTable x = Check.table("pack 2 4; trump 1; custom a 0 lead when " + condition + SURE);
        Check.due("openings when " + condition, x.openings(0, 0), due);
    }

    private static void conditions() {
        says("1 / 0 == 0", 0);
        says("not 1 / 0 == 0", 56);
        says("not not 1 / 0 == 0", 0);
        says("1 / 0 != 1 / 0 or 1 == 1", 56);
        says("1 / 0 == 1 or not 0 < 1", 0);
        says("0 * (1 / 0) == 0", 0);
        says("1 / (suit - 1) == 0 - 1", 28);
        says("9999 * 9999 * 9999 == 0 - 9999 * 9999 * 9999 * (0 - 1)", 56);
        says("9999 * 9999 * 9999 < 0", 56);
        says("(0 - 7) / 2 == 0 - 3", 56);
        says("7 / (0 - 2) == 0 - 3", 56);
        says("1 - 2 - 3 == 0 - 4", 56);
        says("8 / 2 / 2 == 2", 56);
        says("2 + 3 * 4 == 14 and (2 + 3) * 4 == 20", 56);
        says("2 * 3 - 4 / 2 + 1 == 5", 56);
        says("1 == 1 or 1 == 1 and 1 == 2", 56);
        says("1 == 2 and 1 == 1 or 1 == 1", 56);
        says("1 == 2 or 1 == 1 and 1 == 2 or 1 == 2", 0);
        says("not 1 == 2 and 1 == 2", 0);
        says("1 < 1 or 2 < 1", 0);
        says("1 <= 1 and 1 <= 2 and 1 != 2", 56);
        says("suit == 1", 28);
        says("rank == 3", 14);
        says("led == 0 - 1 and trick == 0 and before == 0 - 1", 56);
        says("held == 2", 24);
        says("held == 1", 32);
        says("high == 3 and low == 0", 4);
        says("voids == 1", 24);
        says("voids == 0", 32);
        says("trumps == 2", 12);
        says("trumps == count 1", 56);
        says("count 0 + count 1 == 2 and count 2 == 0 and count 3 == 0", 56);
        applies("held == 0 and high == 0 and low == 0 and voids == 0 and trumps == 0 and count 0 == 0", 56);
        applies("suit == 1 and rank < 2", 14);
        applies("led == 0 - 1 and trick == 0 and before == 0 - 1", 56);
        applies("1 / 0 == 0", 0);
        applies("1 / held == 0", 0);
    }
}
