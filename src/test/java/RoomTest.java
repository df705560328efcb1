import com.sun.management.ThreadMXBean;
import java.lang.management.ManagementFactory;
import java.util.List;
import java.util.function.Consumer;

/**
 * What a run of calls makes, in bytes: all calls of one run live in one room of some 600,000 objects and 7.3 million
 * elements, and a call that makes nothing can't fill it. The dearest calls are counted, with the fullest plugboard and deck.
 */
public final class RoomTest {
    private static final int CALLS = 400;
    /** An int takes four bytes; an object with all slots used has some 45,000 elements. */
    private static final long BYTES_OF_AN_OBJECT = 400_000;
    /** What the measuring itself may make. */
    private static final long BYTES_OF_NOTHING = 2_000;

    private static final ThreadMXBean THREADS = (ThreadMXBean) ManagementFactory.getThreadMXBean();

    private RoomTest() {
    }

    public static void main(String[] args) {
        if (THREADS.isThreadAllocatedMemorySupported()) {
            newObject();
            callsMakeNothing();
            refusedCallsMakeAnException();
        }
        Check.ends("RoomTest");
    }

    private static Tabulator full() {
        String text = Check.repeated("field a#1 9;", 8) + Check.repeated("selector s#1 1;", 6) + Check.repeated("counter c#9aa add;", 6)
            + "control1aa;control2ab;control3ac;" + "list aa1;".repeat(12) + "total1ca2;".repeat(4) + "total2ca2;".repeat(4) + "total3ca2;".repeat(4)
            + "roll1ca cb;".repeat(8) + "clear1cf;".repeat(8) + "punch1ca1;punch2ca1;punch3ca1;";
        Tabulator x = Check.machine(text + "card1;card2;".repeat(20));
        for (int slot = 0; slot < 3; slot++) {
            x.save(slot);
        }
        return x;
    }

    private static long bytes() {
        return THREADS.getThreadAllocatedBytes(Thread.currentThread().getId());
    }

    private static void newObject() {
        Tabulator warm = new Tabulator();
        warm.save(0);
        long before = bytes();
        Tabulator x = new Tabulator();
        for (int slot = 0; slot < 3; slot++) {
            x.save(slot);
        }
        long made = bytes() - before;
        Check.same("a new object with three saved machines makes " + made + " bytes, not many", true, made < BYTES_OF_AN_OBJECT);
    }

    private static void callsMakeNothing() {
        List<Consumer<Tabulator>> calls = List.of(x -> x.neededWidth(0), x -> x.linesDependingOn(3), x -> x.crossfootErrors(0, 1, 2),
            Tabulator::linesOfRun, x -> x.sort(0), x -> x.greatestGroup(0, 1), x -> x.groupSum(0, 1, 0), x -> x.groupOf(39, 1), x -> x.mean(0),
            x -> x.movingAverage(0, 0.5f), x -> x.firstOutOfSequence(0), x -> x.earlierMatch(39, 0), x -> x.setColumn(39, 20, 99),
            x -> x.plugCounter(0, 7, 2), x -> x.plugSelector(0, 5, true), x -> x.plugControl(1, 7), Tabulator::reset, x -> x.save(2),
            x -> x.restore(1), x -> x.run(1), Tabulator::lineCount, Tabulator::cardCount, x -> x.counter(0), Tabulator::errorKind,
            x -> {
                x.removeCard(0);
                x.copyCard(0);
            }, x -> {
                x.reset();
                x.finish();
                x.lineCharacter(119, 40);
                x.summaryColumn(39, 20);
                x.restack();
                x.restore(0);
            }, x -> {
                x.feed(0x20636172, 0x64203132, 0x33343536, 0x3738393a, 0x3b3b3b3b);
                x.load(20);
            });
        for (int i = 0; i < calls.size(); i++) {
            Consumer<Tabulator> call = calls.get(i);
            call.accept(full());
            Tabulator x = full();
            // some of these calls are six: an object is good for 512
            int times = i < calls.size() - 3 ? CALLS : CALLS / 6;
            long before = bytes();
            for (int time = 0; time < times; time++) {
                call.accept(x);
            }
            long made = bytes() - before;
            Check.same("call " + i + " makes " + made + " bytes, not many", true, made < BYTES_OF_NOTHING);
        }
    }

    private static void refusedCallsMakeAnException() {
        Tabulator x = full();
        Check.throwsIndex("30 counter", () -> x.counter(6));
        long before = bytes();
        for (int time = 0; time < CALLS; time++) {
            try {
                x.counter(6);
            } catch (IndexOutOfBoundsException e) {
                continue;
            }
        }
        long made = bytes() - before;
        Check.same("a refused call makes an exception and no more: " + made, true, made < CALLS * 1000L);
    }
}
