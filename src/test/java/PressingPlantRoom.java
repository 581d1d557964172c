import java.lang.management.ManagementFactory;

/**
 * All calls of one run live in one room: calls make no objects at all, and a new plant few. A plant that is
 * as full as it can be answers its dearest calls, too.
 */
public final class PressingPlantRoom {
    private static final long MOST_BYTES_OF_A_PLANT = 40_000;
    private static final com.sun.management.ThreadMXBean THREADS =
        (com.sun.management.ThreadMXBean) ManagementFactory.getThreadMXBean();

    private static int wrong = 0;

    private static void due(String what, long got, long want) {
        if (got == want) return;
        wrong++;
        System.out.println(what + ": " + got + ", due is " + want);
    }

    private static long bytes() {
        return THREADS.getThreadAllocatedBytes(Thread.currentThread().getId());
    }

    /** Forty metals, thirty runs of three stampers by turns, each on a day of its own. */
    private static void fill(PressingPlant x) {
        rule(x, "G039 G3399 W99999");
        for (int side = 0; side < 3; side++) x.lacquer(side, 0);
        for (int side = 0; side < 3; side++) x.grow(side, 3, 0);
        for (int i = 0; i < 30; i++) {
            x.part(0);
            x.marry(0, 3 + i % 3, 3 + (i + 1) % 3);
            due("run " + i, x.run(0, 1 + i, i % 2 == 0), i);
            x.later(1);
        }
        x.part(0);
        for (int m = 6; m < 40; m++) {
            due("metal " + m, x.grow(m % 3 == 0 ? 3 : m - 1, 3, 0), m);
            x.later(1);
        }
    }

    private static void rule(PressingPlant x, String text) {
        x.text(0, text.length());
        for (int i = 0; i < text.length(); i++) x.put(0, i, text.charAt(i));
        due("rule", x.rule(0, 0), x.count(4) - 1);
    }

    /** A click on the latest runs of all three: each stamper from each of its days may be it. */
    private static void hear(PressingPlant x) {
        x.report(29, 0, 5, true);
        x.report(29, 1, 5, true);
        x.report(28, 0, 5, true);
        for (int i = 0; i < 57; i++) x.report(i % 28, i & 1, 5 + i % 2, false);
    }

    private static void fullPlant() {
        PressingPlant x = new PressingPlant();
        fill(x);
        hear(x);
        due("count(1)", x.count(1), 40);
        due("count(3)", x.count(3), 30);
        due("count(5)", x.count(5), 60);
        due("cause(5, 0)", x.cause(5, 0), 3);
        due("cause(5, 60)", x.cause(5, 60), 3);
        due("cause(6, 60)", x.cause(6, 60), 0);
        // For each face its stamper from one of twenty days, its lacquer, or the run's face alone.
        due("rivals(5, 60)", x.rivals(5, 60), 22 * 22 * 22);
        due("nextTest(5, 60)", x.nextTest(5, 60) >= 0 ? 1 : 0, 1);
    }

    private static long dearCalls(PressingPlant x) {
        long sum = 0;
        for (int i = 0; i < 20; i++) {
            sum += x.cause(5, i) + x.rivals(5, 60) + x.nextTest(5, 60) + x.causeTold(0, i % 6) + x.recall(i, 0, 1);
            sum += x.plan(1 + i % 3, 1 + i) + x.planned(i % 9) + x.digest() + x.fault(0) + x.rule(0, i);
            sum += x.swishRun(0, 0) + x.sell(i, 1, 1) + x.back(i, 1, 1) + x.owe(0, 1, 0, 999) + x.share(0) + x.guess(1);
            sum += x.cost(1, 4, 3, 2) + x.state(i, 2) + x.asOf(i, 3) + x.lead(i) + x.mark(i, 3) + x.mean(3) + x.force(1, 0, 0, 9, 9);
        }
        return sum;
    }

    private static PressingPlant readyPlant() {
        PressingPlant x = new PressingPlant();
        fill(x);
        hear(x);
        x.row(0, 24);
        for (int i = 0; i < 9; i++) x.order(1 + i, 70 + i);
        return x;
    }

    /** The least of some measures: the machine makes objects of its own now and then. */
    private static void room() {
        dearCalls(readyPlant());
        long ofCalls = Long.MAX_VALUE;
        long ofPlant = Long.MAX_VALUE;
        for (int i = 0; i < 5; i++) {
            PressingPlant x = readyPlant();
            long before = bytes();
            dearCalls(x);
            ofCalls = Math.min(ofCalls, bytes() - before);
            before = bytes();
            new PressingPlant();
            ofPlant = Math.min(ofPlant, bytes() - before);
        }
        due("bytes made by calls", ofCalls, 0);
        due("bytes of a plant (" + ofPlant + ") within " + MOST_BYTES_OF_A_PLANT, ofPlant <= MOST_BYTES_OF_A_PLANT ? 1 : 0, 1);
        System.out.println("a plant is of " + ofPlant + " bytes");
    }

    public static void main(String[] args) {
        fullPlant();
        room();
        System.out.println(wrong == 0 ? "there is room" : wrong + " faults");
        if (wrong != 0) System.exit(1);
    }
}
