/** Promises 35 and 36: what customs gain over deals by lots. The numbers are those of the plain one in Plain.java. */
public final class GainTest {
    private static final String THREE = "pack 2 4; trump 0; custom a 2 lead says rank == low and held == 2;"
            + "custom b 0 follow says rank == high; custom c 2 discard when suit == 1 says voids == 1;";

    public static void main(String[] args) {
        gains();
        best();
        refusals();
        theGameStays();
        Check.end("GainTest");
    }

    private static void gains() {
        SignalTable x = Check.table(THREE);
        int[][] due = {{0, 0, 0, 0, 0, 0, 0, 0}, {0, -2, 0, -1, 0, -2, 0, -1}, {0, -1, 0, 0, 0, -1, 0, 0},
                {0, 0, 0, 1, 0, 0, 0, 1}, {0, 1, 0, 1, 0, 1, 0, 1}};
        for (int i = 0; i < due.length; i++) {
            for (int customs = 0; customs < 8; customs++) {
                Check.due("gain(" + customs + ", " + 20 * i + ", 20)", x.gain(customs, 20 * i, 20), due[i][customs]);
            }
        }
        Check.due("gain(1, 140, 20)", x.gain(1, 140, 20), 2);
        int sum = 0;
        for (int seed = 140; seed < 160; seed++) {
            sum += x.gain(1, seed, 1);
        }
        Check.due("deal by deal", sum, 2);
        Check.due("seeds wrap", x.gain(7, Integer.MAX_VALUE, 2),
                x.gain(7, Integer.MAX_VALUE, 1) + x.gain(7, Integer.MIN_VALUE, 1));
    }

    private static void best() {
        SignalTable x = Check.table(THREE);
        int[][] due = {{0, 0}, {0, 0}, {0, 0}, {3, 1}, {1, 1}, {0, 0}, {0, 0}, {1, 2}};
        for (int i = 0; i < due.length; i++) {
            for (int what = 0; what < 2; what++) {
                Check.due("bestSet(" + 20 * i + ", 20, " + what + ")", x.bestSet(20 * i, 20, what), due[i][what]);
            }
        }
        Check.due("no customs: the empty set", Check.table("pack 4 2;").bestSet(1, 20, 0), 0);
        Check.due("no customs: no gain", Check.table("pack 1 8;").bestSet(1, 20, 1), 0);
    }

    private static void refusals() {
        SignalTable x = Check.table(THREE);
        Check.due("gain(8, 1, 1)", x.gain(8, 1, 1), -1000);
        Check.due("gain(-1, 1, 1)", x.gain(-1, 1, 1), -1000);
        Check.due("gain(0, 1, 0)", x.gain(0, 1, 0), -1000);
        Check.due("gain(0, 1, 21)", x.gain(0, 1, 21), -1000);
        Check.due("gain(0, 1, -1)", x.gain(0, 1, -1), -1000);
        Check.due("gain(0, 1, 20)", x.gain(0, 1, 20), 0);
        Check.due("bestSet(1, 0, 0)", x.bestSet(1, 0, 0), -1000);
        Check.due("bestSet(1, 21, 0)", x.bestSet(1, 21, 0), -1000);
        Check.due("bestSet(1, 1, 2)", x.bestSet(1, 1, 2), -1000);
        Check.due("bestSet(1, 1, -1)", x.bestSet(1, 1, -1), -1000);
        String[] others = {"", "pack 1 4;", "pack 3 4;", "pack 2 2;"};
        for (String text : others) {
            Check.due("gain with " + text, Check.table(text).gain(0, 1, 1), -1000);
            Check.due("bestSet with " + text, Check.table(text).bestSet(1, 1, 0), -1000);
        }
    }

    private static void theGameStays() {
        SignalTable x = Check.table(THREE);
        x.gain(7, 3, 5);
        Check.due("nothing is dealt", x.count(5), -2);
        x.hands(17, 34, 136);
        x.lead(2);
        x.play(3);
        long before = x.mean(2, 0);
        x.gain(7, 3, 5);
        x.bestSet(3, 5, 0);
        Check.due("count(5)", x.count(5), 1);
        Check.due("turn()", x.turn(), 3);
        Check.due("card(0, 0)", x.card(0, 0), 3);
        Check.due("hand(2, false)", x.hand(2, false), 128);
        Check.due("mean(2, 0)", x.mean(2, 0), before);
        Check.due("undo()", x.undo(), 0);
        Check.due("who led stays", x.turn(), 2);
    }
}
