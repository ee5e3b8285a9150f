import com.sun.management.ThreadMXBean;
import java.lang.management.ManagementFactory;
import java.util.Random;

/** What LANGUAGE.md asks of calls: none throws for any arguments in any state, and none makes anything anew. */
public final class RoomTest {
    /** With the text, and with calls that ask ahead of another, 512 at most for an object. */
    private static final int CALLS = 320;
    private static final String[] TEXTS = {"", "pack 1 4;", "pack 2 4; trump 0; custom a 2 lead says rank == low;",
            "pack 3 4; trump 1; custom a 0 follow when rank < 2 says held / (voids - 1) == 1; custom b 1 lead says 1 == 2;",
            "pack 1 16; custom a 2 follow says high < 9;", "pack 4 4; custom a 2 discard says low == rank or trumps == 0;"};

    private static Random lots;

    public static void main(String[] args) {
        makesNothing();
        Check.end("RoomTest");
    }

    private static void makesNothing() {
        ThreadMXBean threads = (ThreadMXBean) ManagementFactory.getThreadMXBean();
        long self = Thread.currentThread().getId();
        SignalTable[] tables = new SignalTable[40];
        long start = threads.getThreadAllocatedBytes(self);
        for (int i = 0; i < tables.length; i++) {
            tables[i] = new SignalTable();
        }
        long each = (threads.getThreadAllocatedBytes(self) - start) / tables.length;
        Check.due("a new object is small, in bytes: " + each, each < 120000, true);
        long most = 0;
        for (int i = 0; i < tables.length; i++) {
            lots = new Random(i);
            Check.tape(tables[i], TEXTS[i % TEXTS.length]);
            Check.due("read()", tables[i].read(), 0);
            start = threads.getThreadAllocatedBytes(self);
            for (int k = 0; k < CALLS; k++) {
                call(tables[i]);
            }
            most = Math.max(most, threads.getThreadAllocatedBytes(self) - start);
        }
        Check.due(CALLS + " calls make nothing, but " + most + " bytes", most < 4000, true);
    }

    /** Mostly numbers that mean something, now and then any at all. */
    private static int any() {
        int k = lots.nextInt(100);
        return k < 90 ? lots.nextInt(17) - (k < 10 ? 2 : 0) : k < 95 ? lots.nextInt() : Integer.MIN_VALUE >> lots.nextInt(32);
    }

    private static int bits() {
        return lots.nextInt(100) < 90 ? lots.nextInt(4) : any();
    }

    private static long call(SignalTable x) {
        switch (lots.nextInt(50)) {
            case 0:
                return x.feed(any(), any(), any(), any(), any());
            case 1:
                return x.back(any());
            case 2:
                return lots.nextInt(6) == 0 ? x.read() : x.place();
            case 3:
                return x.deal(any()) ? 1 : 0;
            case 4:
                return x.hands(any(), any(), any()) ? 1 : 0;
            case 5:
                return x.lead(any()) ? 1 : 0;
            case 6:
                return x.hand(any(), lots.nextBoolean());
            case 7:
                return x.revoke(any());
            case 8:
                return x.undo();
            case 9:
                return x.card(any(), any());
            case 10:
                return x.tricks(any());
            case 11:
                return x.winner(any());
            case 12:
                return x.says(any(), bits(), any());
            case 13:
                return x.canBe(any(), bits());
            case 14:
                return x.had(any(), any(), any(), bits());
            case 15:
                return x.sure(any(), bits());
            case 16:
                return x.after(any(), any(), bits());
            case 17:
                return x.knows(any(), any(), any(), bits());
            case 18:
                return x.revokes(any());
            case 19:
                return x.open();
            case 20:
                return x.line(any());
            case 21:
                return x.mean(any(), bits());
            case 22:
                return x.choice(bits());
            case 23:
                return x.spread(any(), bits(), any());
            case 24:
                return x.safe(bits(), any());
            case 25:
                return x.loss(bits());
            case 26:
                return x.differs(bits());
            case 27:
                return x.lies(any());
            case 28:
                return x.worth(bits());
            case 29:
                return x.gain(bits(), any(), any());
            case 30:
                return x.bestSet(any(), any(), any());
            case 31:
                return x.book();
            case 32:
                return x.kept(any());
            case 33:
                return x.told(any(), any(), any());
            case 34:
                return x.openings(any(), any());
            case 35:
                return x.quarrel(any(), any());
            case 36:
                return x.gap();
            case 37:
                return x.hold(any()) ? 1 : 0;
            case 38:
                return x.restore(any()) ? 1 : 0;
            case 39:
                return x.count(any()) + x.turn();
            default:
                return x.may() == 0 ? x.play(any()) : x.play(Integer.numberOfTrailingZeros(x.may()));
        }
    }
}
