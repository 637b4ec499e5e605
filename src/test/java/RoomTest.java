import com.sun.management.ThreadMXBean;
import java.lang.management.ManagementFactory;

/** All calls of a run share one room: a call that does not throw makes no object. */
final class RoomTest {
    private static final int ROUNDS = 2000;
    private static final ThreadMXBean THREADS = (ThreadMXBean) ManagementFactory.getThreadMXBean();

    public static void main(String[] args) {
        Bench b = new Bench().list(0, 'a', "ab", "a").list(1, 'a', "ab").list(2, 'b', "ba").pen();
        Bench plain = new Bench().list(0, 'a', "ab").list(1, 'b', "ba").pen().both("aab", "aaba");
        callAll(b, plain);
        long before = THREADS.getCurrentThreadAllocatedBytes();
        for (int i = 0; i < ROUNDS; i++) {
            callAll(b, plain);
        }
        long bytes = (THREADS.getCurrentThreadAllocatedBytes() - before) / ROUNDS;
        Checks.same("bytes that a round of calls makes", bytes, 0L);
        long object = THREADS.getCurrentThreadAllocatedBytes();
        new ParallelRewriting();
        object = THREADS.getCurrentThreadAllocatedBytes() - object;
        Checks.yes("a workbench of " + object + " bytes is small", object < 40_000);
        Checks.finish();
    }

    private static void callAll(Bench many, Bench one) {
        ParallelRewriting x = many.x;
        x.clearText();
        x.appendCharacter('a');
        x.appendCharacter('b');
        x.setWord();
        x.setTarget();
        x.setProduction(0, 1);
        x.addProduction(0, 1);
        x.productionCount(0, 1);
        x.setContextRule(0, 1, 1);
        x.removeContextRule(0, 1, 1);
        x.save();
        x.step(0, 5);
        x.undo();
        x.restore();
        x.ways(0);
        x.isAdult(0);
        x.adultWords(0, 4);
        ParallelRewriting y = one.x;
        y.lengthAfter(0, 1000);
        y.countAfter(0, 1000, 1);
        y.growthKind(0);
        y.growthDegree(0);
        y.recurrenceOrder(0);
        y.recurrenceCoefficient(0, 1);
        y.stepsToAdult(2, 50);
        y.sequenceCount(5);
        y.firstSequence(1);
        y.segmentCount();
        y.inkLength();
        y.extent(3);
        y.openDepth();
        y.keepPoints(0, true);
        y.remainder(0, 2, 4);
    }
}
