/** The edges of promises 1 to 4 and 16: suites, ranges, nonces, and clear from every limit. */
final class SetupEdgeTest {
    private static final int OPEN = RekeyPeers.OPEN;
    private static final int RENEW = RekeyPeers.RENEW;
    private static final int DELETE = RekeyPeers.DELETE;
    private static final int LEAST = Integer.MIN_VALUE;
    private static final int GREATEST = Integer.MAX_VALUE;

    public static void main(String[] args) {
        atFirstThereAreNoSuitesSoThatAllIsNo();
        everySuiteFromOneToNineIsTaken();
        fourSuitesAreTakenAndAFifthIsRefused();
        aSuiteIsRefusedWhereverItStands();
        theFourthSuiteCountsToo();
        theOrderIsTheRequests();
        oneNumberIsARange();
        theWholeRangeMayBeTakenAgain();
        theRangeThatWasBeforeIsForgotten();
        aSharedPartOfOneNumberIsEnough();
        rangesSideBySideShareNothing();
        noncesRunOver();
        noncesAreTheHighestBitsWithoutSign();
        aSeedBeginsTheRowAnew();
        eachPeerHasItsOwnRowOfNonces();
        clearOfANewObjectChangesNothing();
        clearFromEveryLimit();
        clearTwiceIsClearOnce();
        Expect.end();
    }

    private static void atFirstThereAreNoSuitesSoThatAllIsNo() {
        for (int peer = 0; peer < 2; peer++) {
            for (int having = -1; having < 2; having++) {
                RekeyPeers x = new RekeyPeers();
                if (having >= 0) {
                    x.suite(having, 1);
                }
                x.wish(peer, OPEN, 0);
                Expect.same("answered", x.deliver(1 - peer, 0), 1);
                Expect.sameText("NO", Bench.packet(x, peer, 0), "0 0 0 0 0 0 0");
                Expect.same("counts", x.deliver(peer, 0), 3);
                Expect.same("no child", x.children(0) + x.children(1), 0);
            }
        }
    }

    private static void everySuiteFromOneToNineIsTaken() {
        for (int peer = 0; peer < 2; peer++) {
            for (int suite = 1; suite <= 9; suite++) {
                RekeyPeers x = new RekeyPeers();
                Expect.same("suite " + suite, x.suite(peer, suite), 1);
                x.suite(1 - peer, suite);
                Bench.open(x, peer);
                Expect.same("agreed on " + suite, x.child(peer, 0, 2), suite);
            }
        }
    }

    private static void fourSuitesAreTakenAndAFifthIsRefused() {
        for (int peer = 0; peer < 2; peer++) {
            int its = peer;
            RekeyPeers x = new RekeyPeers();
            for (int i = 1; i <= 4; i++) {
                Expect.same("suite number " + i, x.suite(peer, 2 * i), i);
            }
            Expect.throwsUnsupported("a fifth", () -> x.suite(its, 9));
            Expect.throwsUnsupported("a fifth, once more", () -> x.suite(its, 1));
            Expect.throwsArgument("a fifth that is there", () -> x.suite(its, 8));
            Expect.throwsArgument("a fifth that is none", () -> x.suite(its, 0));
            for (int i = 1; i <= 4; i++) {
                Expect.same("the other one's number " + i, x.suite(1 - peer, 2 * i), i);
            }
            RekeyPeers y = fourOf(peer);
            Expect.throwsUnsupported("a fifth, which the other one has", () -> y.suite(its, 9));
            y.suite(1 - peer, 9);
            y.wish(peer, OPEN, 0);
            y.deliver(1 - peer, 0);
            Expect.same("it did not come", y.packet(peer, 0, 3), 0);
        }
    }

    private static RekeyPeers fourOf(int peer) {
        RekeyPeers x = new RekeyPeers();
        x.suite(peer, 6);
        x.suite(peer, 3);
        x.suite(peer, 8);
        x.suite(peer, 1);
        return x;
    }

    private static void aSuiteIsRefusedWhereverItStands() {
        for (int peer = 0; peer < 2; peer++) {
            int its = peer;
            RekeyPeers x = new RekeyPeers();
            int[] suites = {6, 3, 8};
            for (int i = 0; i < suites.length; i++) {
                Expect.same("it comes", x.suite(peer, suites[i]), i + 1);
                for (int k = 0; k <= i; k++) {
                    int again = suites[k];
                    Expect.throwsArgument(again + " again", () -> x.suite(its, again));
                }
            }
            Expect.same("what the other one has may come", x.suite(1 - peer, 3), 1);
            Expect.same("the refused ones did not", x.suite(peer, 1), 4);
        }
    }

    private static void theFourthSuiteCountsToo() {
        for (int peer = 0; peer < 2; peer++) {
            RekeyPeers x = fourOf(peer);
            x.suite(1 - peer, 1);
            Bench.open(x, peer);
            Expect.same("the fourth of the request's", x.child(peer, 0, 2), 1);
            Bench.open(x, 1 - peer);
            Expect.same("the fourth of the answering one's", x.child(peer, 1, 2), 1);
        }
    }

    private static void theOrderIsTheRequests() {
        for (int peer = 0; peer < 2; peer++) {
            RekeyPeers x = fourOf(peer);
            x.suite(1 - peer, 1);
            x.suite(1 - peer, 8);
            x.suite(1 - peer, 3);
            x.suite(1 - peer, 6);
            Bench.open(x, peer);
            Expect.same("the first of the request's", x.child(1 - peer, 0, 2), 6);
            Bench.open(x, 1 - peer);
            Expect.same("the first of the other's request", x.child(peer, 1, 2), 1);
        }
    }

    private static void oneNumberIsARange() {
        for (int number : new int[] {0, 1, 500, 999, 1000}) {
            RekeyPeers x = Bench.ready();
            Expect.same("one number of 0", x.range(0, number, number), 1);
            Expect.same("one number of 1", x.range(1, number, number), 1);
            Bench.open(x, 1);
            Expect.same("low", x.child(0, 0, 3), number);
            Expect.same("high", x.child(0, 0, 4), number);
        }
    }

    private static void theWholeRangeMayBeTakenAgain() {
        for (int peer = 0; peer < 2; peer++) {
            RekeyPeers x = Bench.ready();
            x.range(peer, 4, 5);
            Expect.same("all", x.range(peer, 0, 1000), 1001);
            Expect.same("all but the first", x.range(1 - peer, 1, 1000), 1000);
            Expect.same("all but the last", x.range(1 - peer, 0, 999), 1000);
            Expect.same("all of the other", x.range(1 - peer, 0, 1000), 1001);
            Bench.open(x, peer);
            Expect.same("low", x.child(peer, 0, 3), 0);
            Expect.same("high", x.child(peer, 0, 4), 1000);
        }
    }

    private static void theRangeThatWasBeforeIsForgotten() {
        RekeyPeers x = Bench.ready();
        x.range(0, 1, 2);
        x.range(0, 900, 1000);
        x.range(1, 998, 999);
        x.range(1, 0, 900);
        Bench.open(x, 0);
        Expect.same("low", x.child(1, 0, 3), 900);
        Expect.same("high", x.child(1, 0, 4), 900);
    }

    private static void aSharedPartOfOneNumberIsEnough() {
        for (int number : new int[] {0, 1, 999, 1000}) {
            for (int peer = 0; peer < 2; peer++) {
                RekeyPeers x = Bench.ready();
                x.range(peer, 0, number);
                x.range(1 - peer, number, 1000);
                Bench.open(x, 0);
                Bench.open(x, 1);
                Expect.same("both are agreed on", x.agreed(), 2);
                Expect.same("low", x.child(0, 1, 3), number);
                Expect.same("high", x.child(0, 1, 4), number);
            }
        }
    }

    private static void rangesSideBySideShareNothing() {
        for (int number : new int[] {0, 1, 998, 999}) {
            for (int peer = 0; peer < 2; peer++) {
                RekeyPeers x = Bench.ready();
                x.range(peer, 0, number);
                x.range(1 - peer, number + 1, 1000);
                Bench.open(x, 0);
                Bench.open(x, 1);
                Expect.same("no child", x.children(0) + x.children(1), 0);
            }
        }
    }

    private static void noncesRunOver() {
        int seed = 2500;
        RekeyPeers x = new RekeyPeers();
        x.seed(0, seed);
        long number = seed;
        for (int i = 0; i < 20; i++) {
            number = (number * 1664525L + 1013904223L) % (1L << 32);
            x.wish(0, OPEN, 0);
            Expect.same("nonce " + i, x.packet(1, 0, 5), number >> 16);
            Bench.exchange(x, 0);
        }
    }

    private static void noncesAreTheHighestBitsWithoutSign() {
        int[] nonces = {0, 1, 0x7fff, 0x8000, 0xfffe, 0xffff};
        for (int nonce : nonces) {
            RekeyPeers x = Bench.ready();
            x.seed(0, Bench.seedFor(nonce));
            x.seed(1, Bench.seedFor(nonce));
            x.wish(0, OPEN, 0);
            Expect.same("nonce", x.packet(1, 0, 5), nonce);
            x.deliver(1, 0);
            Expect.same("nonce of the answer", x.packet(0, 0, 5), nonce);
        }
        for (int seed : new int[] {LEAST, -1, 0, 1, GREATEST}) {
            RekeyPeers x = new RekeyPeers();
            x.seed(1, seed);
            x.wish(1, OPEN, 0);
            Expect.same("nonce behind " + seed, x.packet(0, 0, 5), Bench.nonceBehind(seed));
        }
    }

    private static void aSeedBeginsTheRowAnew() {
        RekeyPeers x = new RekeyPeers();
        for (int i = 0; i < 3; i++) {
            x.seed(0, 0);
            x.wish(0, OPEN, 0);
            Expect.same("the first nonce again", x.packet(1, 0, 5), Bench.nonceBehind(0));
            Bench.exchange(x, 0);
        }
        x.seed(0, 4);
        x.seed(0, 5);
        x.wish(0, OPEN, 0);
        Expect.same("the later seed counts", x.packet(1, 0, 5), Bench.nonceBehind(5));
    }

    private static void eachPeerHasItsOwnRowOfNonces() {
        RekeyPeers x = Bench.ready();
        x.wish(0, OPEN, 0);
        x.deliver(1, 0);
        Expect.same("the answer's is the first of 1", x.packet(0, 0, 5), Bench.nonceBehind(1));
        x.deliver(0, 0);
        x.wish(1, OPEN, 0);
        int second = Bench.nonceBehind(1 * 1664525 + 1013904223);
        Expect.same("its request's is the second", x.packet(0, 0, 5), second);
        x.deliver(0, 0);
        int secondOfZero = Bench.nonceBehind(1013904223);
        Expect.same("that answer's is the second of 0", x.packet(1, 0, 5), secondOfZero);
    }

    private static void clearOfANewObjectChangesNothing() {
        RekeyPeers x = new RekeyPeers();
        x.clear();
        Expect.sameText("shown", Bench.all(x), Bench.all(new RekeyPeers()));
        Expect.sameText("to come", Bench.future(x), Bench.future(new RekeyPeers()));
    }

    private static void clearFromEveryLimit() {
        isNewWhenCleared("four suites", fourOf(0));
        isNewWhenCleared("four suites of 1", fourOf(1));
        isNewWhenCleared("sixteen children", Bench.agreeing(16));
        RekeyPeers thirty = Bench.agreeing(1);
        thirty.wish(0, RENEW, 0);
        thirty.wish(1, OPEN, 0);
        Bench.fill(thirty, 0, 30);
        Bench.fill(thirty, 1, 30);
        isNewWhenCleared("thirty packets", thirty);
        RekeyPeers ten = Bench.agreeing(2);
        for (int i = 0; i < 11; i++) {
            ten.wish(0, DELETE, i % 2);
            ten.wish(1, RENEW, i % 2);
        }
        isNewWhenCleared("ten wishes", ten);
        RekeyPeers dead = Bench.agreeing(1);
        dead.wish(0, OPEN, 0);
        dead.wish(1, OPEN, 0);
        dead.tick(1000);
        isNewWhenCleared("both dead", dead);
        RekeyPeers set = new RekeyPeers();
        for (int peer = 0; peer < 2; peer++) {
            set.range(peer, 7, 7);
            set.seed(peer, 77);
        }
        isNewWhenCleared("ranges and seeds", set);
        RekeyPeers answered = Bench.ready();
        answered.wish(1, OPEN, 0);
        answered.tick(60);
        answered.deliver(0, 0);
        isNewWhenCleared("an answer that may fly again", answered);
    }

    private static void isNewWhenCleared(String from, RekeyPeers x) {
        x.clear();
        Expect.sameText("from " + from, Bench.all(x), Bench.all(new RekeyPeers()));
        Expect.same("suite of 0, from " + from, x.suite(0, 9), 1);
        Expect.same("suite of 1, from " + from, x.suite(1, 9), 1);
        RekeyPeers fresh = new RekeyPeers();
        fresh.suite(0, 9);
        fresh.suite(1, 9);
        Bench.open(x, 0);
        Bench.open(fresh, 0);
        Expect.sameText("to come, from " + from, Bench.future(x), Bench.future(fresh));
    }

    private static void clearTwiceIsClearOnce() {
        RekeyPeers x = Bench.agreeing(2);
        x.wish(0, OPEN, 0);
        x.clear();
        x.clear();
        Expect.sameText("shown", Bench.all(x), Bench.all(new RekeyPeers()));
    }
}
