import java.util.Random;

/**
 * Long runs of any calls, the same each time: what throws changes nothing (a twin object gets only
 * the calls that did not throw, and must answer the same), no limit is passed, and clear() makes
 * the object like a new one.
 */
final class AnyRunTest {
    private static final int RUNS = 2000;
    /** Few enough that all calls of an object, with those that look at it in the end, are promised. */
    private static final int MOST_CALLS = 180;
    private static final int THROWN = Integer.MIN_VALUE;

    public static void main(String[] args) {
        for (int run = 0; run < RUNS; run++) {
            anyRun(run);
        }
        Expect.end();
    }

    private static void anyRun(int run) {
        RekeyPeers x = prepared(run);
        RekeyPeers twin = prepared(run);
        int[][] calls = anyCalls(run);
        for (int i = 0; i < calls.length; i++) {
            int got = answer(x, calls[i]);
            if (got != THROWN) {
                Expect.same("run " + run + ", call " + i + " at the twin", answer(twin, calls[i]), got);
            }
        }
        limitsHold(run, x);
        Expect.sameText("run " + run, Bench.all(x), Bench.all(twin));
        x.clear();
        Expect.sameText("run " + run + " cleared", Bench.all(x), Bench.all(new RekeyPeers()));
    }

    /** A scout goes the same way, so that most calls name what is there. */
    private static int[][] anyCalls(int run) {
        Random random = new Random(run);
        RekeyPeers scout = prepared(run);
        int[][] calls = new int[1 + run % MOST_CALLS][];
        for (int i = 0; i < calls.length; i++) {
            calls[i] = anyCall(random, scout);
            answer(scout, calls[i]);
        }
        return calls;
    }

    /** Half of the runs begin with suites, so that children come soon. */
    private static RekeyPeers prepared(int run) {
        return run % 2 == 0 ? Bench.ready() : new RekeyPeers();
    }

    private static int[] anyCall(Random random, RekeyPeers scout) {
        int peer = random.nextInt(40) == 0 ? random.nextInt(5) - 2 : random.nextInt(2);
        int side = peer == 1 ? 1 : 0;
        int which = random.nextInt(100);
        if (which < 3) {
            return new int[] {0, peer, random.nextInt(12) - 1, 0};
        }
        if (which < 5) {
            int low = random.nextInt(600) - 5;
            return new int[] {1, peer, low, low + random.nextInt(500) - 5};
        }
        if (which < 9) {
            return new int[] {2, peer, random.nextInt(3) == 0 ? 5 : random.nextInt(), 0};
        }
        if (which < 40) {
            int kind = random.nextInt(30) == 0 ? random.nextInt(7) - 2 : random.nextInt(3);
            return new int[] {3, peer, kind, index(random, scout.children(side))};
        }
        if (which < 85) {
            return new int[] {4, peer, index(random, scout.flying(side)), 0};
        }
        if (which < 90) {
            return new int[] {5, peer, index(random, scout.flying(side)), 0};
        }
        if (which < 96) {
            return new int[] {6, peer, index(random, scout.flying(side)), 0};
        }
        return new int[] {7, random.nextInt(20) == 0 ? random.nextInt(1300) - 100 : random.nextInt(6), 0, 0};
    }

    private static int index(Random random, int many) {
        return random.nextInt(20) == 0 || many == 0 ? random.nextInt(40) - 3 : random.nextInt(many);
    }

    private static int answer(RekeyPeers x, int[] call) {
        try {
            switch (call[0]) {
                case 0: return x.suite(call[1], call[2]);
                case 1: return x.range(call[1], call[2], call[3]);
                case 2: x.seed(call[1], call[2]);
                    return 0;
                case 3: return x.wish(call[1], call[2], call[3]);
                case 4: return x.deliver(call[1], call[2]);
                case 5: return x.lose(call[1], call[2]);
                case 6: return x.twice(call[1], call[2]);
                default: return x.tick(call[1]);
            }
        } catch (RuntimeException thrown) {
            Expect.holds("one of the four, not " + thrown, thrown.getClass() == IndexOutOfBoundsException.class
                    || thrown.getClass() == IllegalArgumentException.class
                    || thrown.getClass() == IllegalStateException.class
                    || thrown.getClass() == UnsupportedOperationException.class);
            return THROWN;
        }
    }

    private static void limitsHold(int run, RekeyPeers x) {
        for (int peer = 0; peer < 2; peer++) {
            Expect.holds("run " + run + ": sixteen children", x.children(peer) <= 16);
            Expect.holds("run " + run + ": thirty packets", x.flying(peer) <= 30);
            Expect.holds("run " + run + ": ten wishes behind a call", x.told(peer, 4) <= 10);
            boolean idle = x.told(peer, 0) == RekeyPeers.NONE;
            Expect.holds("run " + run + ": none waits without cause",
                    !idle || x.told(peer, 5) == 1 || x.told(peer, 4) == 0);
        }
        Expect.holds("run " + run + ": agreed", x.agreed() <= Math.min(x.children(0), x.children(1)));
    }
}
