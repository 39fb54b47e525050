/** Promises 1 to 4 and 16: a new object, suite, range, seed, clear. */
final class SetupTest {
    private static final int OPEN = RekeyPeers.OPEN;
    private static final String NEW = "peer -1 -1 0 0 0 0 0 0; peer -1 -1 0 0 0 0 0 0; agreed 0";

    public static void main(String[] args) {
        aNewObjectIsEmpty();
        aNewObjectHasTheWholeRangeAndItsNumberAsSeed();
        suitesAreCounted();
        suitesAreRefused();
        theFirstSuiteOfTheRequestCounts();
        aRequestKeepsWhatItsPeerHad();
        rangesAreCounted();
        rangesAreRefused();
        theSharedPartIsAgreedOn();
        noncesFollowTheSeed();
        seedsAreRefused();
        clearBringsAllBack();
        clearTakesAwayWhatIsOnItsWay();
        Expect.end();
    }

    private static void aNewObjectIsEmpty() {
        Expect.sameText("a new object", Bench.all(new RekeyPeers()), NEW);
        RekeyPeers x = new RekeyPeers();
        Expect.same("no suites at first", x.suite(0, 9), 1);
        Expect.same("no suites of peer 1 at first", x.suite(1, 9), 1);
    }

    private static void aNewObjectHasTheWholeRangeAndItsNumberAsSeed() {
        RekeyPeers x = Bench.agreeing(1);
        int worth = Math.min(Bench.nonceBehind(0), Bench.nonceBehind(1));
        Expect.sameText("first child of 0", Bench.child(x, 0, 0), "1 2 1 0 1000 0 1 " + worth);
        Expect.sameText("first child of 1", Bench.child(x, 1, 0), "2 1 1 0 1000 0 0 " + worth);
    }

    private static void suitesAreCounted() {
        RekeyPeers x = new RekeyPeers();
        Expect.same("suite 1", x.suite(0, 1), 1);
        Expect.same("suite 9", x.suite(0, 9), 2);
        Expect.same("suite 5", x.suite(0, 5), 3);
        Expect.same("suite 2", x.suite(0, 2), 4);
        Expect.same("the other peer has its own", x.suite(1, 9), 1);
    }

    private static void suitesAreRefused() {
        RekeyPeers x = new RekeyPeers();
        Expect.throwsIndex("suite of peer 2", () -> x.suite(2, 1));
        Expect.throwsIndex("suite of peer -1", () -> x.suite(-1, 0));
        Expect.throwsArgument("suite 0", () -> x.suite(0, 0));
        Expect.throwsArgument("suite 10", () -> x.suite(0, 10));
        Expect.throwsArgument("suite of the least int", () -> x.suite(0, Integer.MIN_VALUE));
        Expect.same("suite 4", x.suite(0, 4), 1);
        Expect.throwsArgument("suite 4 again", () -> x.suite(0, 4));
        x.suite(0, 3);
        x.suite(0, 2);
        Expect.same("the refused ones did not come", x.suite(0, 1), 4);
        Expect.throwsUnsupported("a fifth suite", () -> x.suite(0, 5));
        Expect.throwsArgument("one that is there, with four", () -> x.suite(0, 1));
        Expect.throwsArgument("none that is told, with four", () -> x.suite(0, 10));
        x.suite(1, 5);
        x.wish(0, OPEN, 0);
        x.deliver(1, 0);
        Expect.same("suite 5 of peer 0 is not there", x.packet(0, 0, 3), 0);
    }

    private static void theFirstSuiteOfTheRequestCounts() {
        RekeyPeers x = new RekeyPeers();
        x.suite(0, 7);
        x.suite(0, 4);
        x.suite(0, 2);
        x.suite(1, 2);
        x.suite(1, 4);
        Bench.open(x, 0);
        Expect.same("asked by 0", x.child(0, 0, 2), 4);
        Expect.same("asked by 0, at 1", x.child(1, 0, 2), 4);
        Bench.open(x, 1);
        Expect.same("asked by 1", x.child(1, 1, 2), 2);
        Expect.same("asked by 1, at 0", x.child(0, 1, 2), 2);
    }

    private static void aRequestKeepsWhatItsPeerHad() {
        RekeyPeers x = new RekeyPeers();
        x.suite(0, 1);
        x.range(0, 10, 20);
        x.wish(0, OPEN, 0);
        x.suite(0, 2);
        x.range(0, 300, 400);
        x.suite(1, 2);
        x.tick(4);
        x.deliver(1, 1);
        Expect.same("suite 2 came behind the request", x.packet(0, 0, 3), 0);
        RekeyPeers y = new RekeyPeers();
        y.suite(0, 1);
        y.range(0, 10, 20);
        y.wish(0, OPEN, 0);
        y.range(0, 300, 400);
        y.suite(1, 1);
        y.range(1, 15, 350);
        y.deliver(1, 0);
        y.range(1, 0, 0);
        y.deliver(0, 0);
        Expect.same("low of then", y.child(0, 0, 3), 15);
        Expect.same("high of then", y.child(0, 0, 4), 20);
        Expect.same("agreed", y.agreed(), 1);
    }

    private static void rangesAreCounted() {
        RekeyPeers x = new RekeyPeers();
        Expect.same("the whole range", x.range(0, 0, 1000), 1001);
        Expect.same("one number", x.range(0, 1000, 1000), 1);
        Expect.same("number 0", x.range(1, 0, 0), 1);
        Expect.same("some", x.range(1, 17, 42), 26);
    }

    private static void rangesAreRefused() {
        RekeyPeers x = Bench.ready();
        x.range(0, 5, 6);
        Expect.throwsIndex("range of peer 2", () -> x.range(2, 0, 1));
        Expect.throwsIndex("range of peer -1, wrong too", () -> x.range(-1, 5, 1));
        Expect.throwsArgument("low below 0", () -> x.range(0, -1, 4));
        Expect.throwsArgument("high above 1000", () -> x.range(0, 0, 1001));
        Expect.throwsArgument("low above high", () -> x.range(0, 5, 4));
        Expect.throwsArgument("far out", () -> x.range(0, Integer.MIN_VALUE, Integer.MAX_VALUE));
        Expect.throwsArgument("both above", () -> x.range(0, 1001, 1001));
        Bench.open(x, 0);
        Expect.same("low stays", x.child(0, 0, 3), 5);
        Expect.same("high stays", x.child(0, 0, 4), 6);
    }

    private static void theSharedPartIsAgreedOn() {
        Expect.sameText("part", shared(100, 600, 300, 900), "300 600");
        Expect.sameText("other part", shared(300, 900, 100, 600), "300 600");
        Expect.sameText("within", shared(0, 1000, 7, 9), "7 9");
        Expect.sameText("one number", shared(0, 500, 500, 1000), "500 500");
        Expect.sameText("none", shared(0, 499, 500, 1000), "NO");
        Expect.sameText("none the other way", shared(500, 1000, 0, 499), "NO");
    }

    private static String shared(int low0, int high0, int low1, int high1) {
        RekeyPeers x = Bench.ready();
        x.range(0, low0, high0);
        x.range(1, low1, high1);
        Bench.open(x, 0);
        if (x.children(0) == 0 && x.children(1) == 0) {
            return "NO";
        }
        Expect.same("both have it", x.agreed(), 1);
        return x.child(0, 0, 3) + " " + x.child(0, 0, 4);
    }

    private static void noncesFollowTheSeed() {
        int[] seeds = {0, 1, 7, -1, Integer.MIN_VALUE, Integer.MAX_VALUE, Bench.seedFor(0), Bench.seedFor(65535)};
        for (int seed : seeds) {
            RekeyPeers x = new RekeyPeers();
            x.seed(1, seed);
            x.wish(1, OPEN, 0);
            Expect.same("nonce behind " + seed, x.packet(0, 0, 5), Bench.nonceBehind(seed));
            x.deliver(0, 0);
            x.deliver(1, 0);
            x.wish(1, OPEN, 0);
            int second = Bench.nonceBehind(seed * 1664525 + 1013904223);
            Expect.same("second nonce behind " + seed, x.packet(0, 0, 5), second);
        }
        Expect.same("lowest nonce", Bench.nonceBehind(Bench.seedFor(0)), 0);
        Expect.same("highest nonce", Bench.nonceBehind(Bench.seedFor(65535)), 65535);
    }

    private static void seedsAreRefused() {
        RekeyPeers x = new RekeyPeers();
        x.seed(0, 5);
        Expect.throwsIndex("seed of peer 2", () -> seedAnswered(x, 2));
        Expect.throwsIndex("seed of peer -1", () -> seedAnswered(x, -1));
        x.wish(0, OPEN, 0);
        Expect.same("the seed stays", x.packet(1, 0, 5), Bench.nonceBehind(5));
    }

    private static int seedAnswered(RekeyPeers x, int peer) {
        x.seed(peer, 3);
        return 0;
    }

    private static void clearBringsAllBack() {
        RekeyPeers x = Bench.agreeing(3);
        x.range(0, 3, 4);
        x.range(1, 3, 4);
        x.seed(0, 99);
        x.seed(1, 98);
        x.wish(0, RekeyPeers.RENEW, 1);
        x.wish(1, OPEN, 0);
        x.wish(1, OPEN, 0);
        x.deliver(0, 0);
        Bench.killByTicks(x, 0);
        x.clear();
        Expect.sameText("cleared", Bench.all(x), NEW);
        Expect.same("suites are gone", x.suite(0, 1), 1);
        Expect.same("suites of 1 are gone", x.suite(1, 1), 1);
        Bench.open(x, 0);
        Bench.open(x, 1);
        Expect.sameText("as a new object", Bench.all(x), Bench.all(asNew()));
    }

    private static void clearTakesAwayWhatIsOnItsWay() {
        RekeyPeers x = Bench.agreeing(2);
        for (int peer = 0; peer < 2; peer++) {
            x.wish(peer, OPEN, 0);
            x.wish(peer, RekeyPeers.RENEW, 0);
            x.wish(peer, RekeyPeers.DELETE, 1);
        }
        x.tick(5);
        x.deliver(0, 0);
        x.deliver(1, 0);
        x.clear();
        Expect.sameText("nothing is on its way", Bench.all(x), NEW);
        x.wish(0, OPEN, 0);
        x.deliver(1, 0);
        Expect.sameText("the first request is answered anew", Bench.packet(x, 0, 0), "0 0 0 0 0 0 0");
    }

    private static RekeyPeers asNew() {
        RekeyPeers x = Bench.agreeing(1);
        Bench.open(x, 1);
        return x;
    }
}
