/** The edges of promises 10, 11 and 15: sixteen children, and every NO. */
final class ChildEdgeTest {
    private static final int OPEN = RekeyPeers.OPEN;
    private static final int RENEW = RekeyPeers.RENEW;
    private static final int DELETE = RekeyPeers.DELETE;

    public static void main(String[] args) {
        theSixteenthComesAndTheNextIsNo();
        theSixteenthComesOfAnAnswerAndTheNextDoesNot();
        onlyTheAnsweringOnesSixteenMakeANo();
        thereAreChildrenZeroToFifteen();
        aNoForSuitesTakesNothing();
        aNoForRangesTakesNothing();
        aNoForSixteenTakesNothing();
        deleteOfWhatIsGoneIsNoNo();
        deleteTakesThatChildAlone();
        theyStandAsTheyCame();
        theWorthIsTheLesserOfBothNonces();
        allOfSixteenAreAgreed();
        whatOneHasAloneIsNotAgreed();
        Expect.end();
    }

    private static void theSixteenthComesAndTheNextIsNo() {
        for (int peer = 0; peer < 2; peer++) {
            RekeyPeers x = Bench.agreeing(15);
            x.wish(peer, OPEN, 0);
            x.deliver(1 - peer, 0);
            Expect.same("no NO", x.packet(peer, 0, 3), 1);
            Expect.same("sixteen", x.children(1 - peer), 16);
            x.deliver(peer, 0);
            Expect.same("sixteen here, too", x.children(peer), 16);
            x.wish(peer, OPEN, 0);
            Expect.same("answered", x.deliver(1 - peer, 0), 1);
            Expect.same("NO", x.packet(peer, 0, 3), 0);
            Expect.same("no seventeenth", x.children(1 - peer), 16);
            Expect.same("counts", x.deliver(peer, 0), 3);
            Expect.same("none here", x.children(peer), 16);
        }
    }

    /** Both ask at once, so that each gets one by the other's request before its own answer comes. */
    private static RekeyPeers askingAtOnce(int children) {
        RekeyPeers x = Bench.agreeing(children);
        x.wish(0, OPEN, 0);
        x.wish(1, OPEN, 0);
        x.deliver(0, 0);
        x.deliver(1, 0);
        return x;
    }

    private static void theSixteenthComesOfAnAnswerAndTheNextDoesNot() {
        for (int peer = 0; peer < 2; peer++) {
            RekeyPeers x = askingAtOnce(14);
            Expect.same("fifteen", x.children(peer), 15);
            Expect.same("counts", x.deliver(peer, 0), 3);
            Expect.same("the sixteenth", x.children(peer), 16);
            Expect.same("asked for here", x.child(peer, 15, 6), 1);
            RekeyPeers y = askingAtOnce(15);
            String last = Bench.child(y, peer, 15);
            Expect.same("sixteen", y.children(peer), 16);
            Expect.same("counts all the same", y.deliver(peer, 0), 3);
            Expect.same("none comes", y.children(peer), 16);
            Expect.sameText("and none goes for it", Bench.child(y, peer, 15), last);
            Expect.same("the request is out no more", y.told(peer, 0), RekeyPeers.NONE);
            Expect.same("no wish comes of it", y.told(peer, 4), 0);
        }
    }

    /** Peer 0 has fifteen, peer 1 sixteen: one that peer 1 got by a request whose answer is lost. */
    private static RekeyPeers oneMoreAtOne() {
        RekeyPeers x = Bench.agreeing(15);
        x.wish(0, OPEN, 0);
        x.deliver(1, 0);
        x.lose(0, 0);
        return x;
    }

    private static void onlyTheAnsweringOnesSixteenMakeANo() {
        RekeyPeers x = oneMoreAtOne();
        Expect.same("peer 1 has sixteen", x.children(1), 16);
        x.wish(1, OPEN, 0);
        x.deliver(0, 0);
        Expect.same("peer 0 says no NO", x.packet(1, 0, 3), 1);
        Expect.same("and has sixteen", x.children(0), 16);
        x.deliver(1, 0);
        Expect.same("peer 1 has no more", x.children(1), 16);
    }

    private static void thereAreChildrenZeroToFifteen() {
        RekeyPeers x = Bench.agreeing(16);
        for (int peer = 0; peer < 2; peer++) {
            int its = peer;
            for (int k = 0; k < 16; k++) {
                Expect.same("child " + k, x.child(peer, k, 0), 2 * k + 1 + peer);
                Expect.same("the other one's", x.child(peer, k, 1), 2 * k + 2 - peer);
            }
            Expect.throwsIndex("child 16", () -> x.child(its, 16, 0));
            Expect.throwsIndex("child -1", () -> x.child(its, -1, 0));
        }
        RekeyPeers y = new RekeyPeers();
        Expect.same("none of 0 at first", y.children(0), 0);
        Expect.same("none of 1 at first", y.children(1), 0);
        Expect.throwsIndex("child 0 at first", () -> y.child(0, 0, 0));
        Expect.throwsIndex("child 0 of 1 at first", () -> y.child(1, 0, 7));
    }

    /** The answer to this peer's OPEN is NO; then what is in the way is taken away. */
    private static void takesNothing(RekeyPeers x, int peer, Runnable cure) {
        x.seed(1 - peer, 90);
        x.wish(peer, OPEN, 0);
        x.deliver(1 - peer, 0);
        Expect.same("NO", x.packet(peer, 0, 3), 0);
        Expect.same("without a mark", x.packet(peer, 0, 4), 0);
        Expect.same("without a nonce", x.packet(peer, 0, 5), 0);
        x.deliver(peer, 0);
        int mark = nextMark(x, 1 - peer);
        cure.run();
        x.wish(peer, OPEN, 0);
        x.deliver(1 - peer, 0);
        Expect.same("then no NO", x.packet(peer, 0, 3), 1);
        Expect.same("with the mark that was next", x.packet(peer, 0, 4), mark);
        Expect.same("with the nonce that was next", x.packet(peer, 0, 5), Bench.nonceBehind(90));
    }

    /** The one behind the greatest of its children's. */
    private static int nextMark(RekeyPeers x, int peer) {
        int children = x.children(peer);
        return children == 0 ? peer + 1 : x.child(peer, children - 1, 0) + 2;
    }

    private static void aNoForSuitesTakesNothing() {
        for (int peer = 0; peer < 2; peer++) {
            int other = 1 - peer;
            RekeyPeers x = new RekeyPeers();
            x.suite(peer, 2);
            x.suite(other, 3);
            takesNothing(x, peer, () -> x.suite(other, 2));
        }
    }

    private static void aNoForRangesTakesNothing() {
        for (int peer = 0; peer < 2; peer++) {
            int other = 1 - peer;
            RekeyPeers x = Bench.agreeing(2);
            x.range(peer, 0, 9);
            x.range(other, 10, 20);
            takesNothing(x, peer, () -> x.range(other, 9, 20));
        }
    }

    private static void aNoForSixteenTakesNothing() {
        for (int peer = 0; peer < 2; peer++) {
            int its = peer;
            RekeyPeers x = Bench.agreeing(16);
            takesNothing(x, peer, () -> Bench.delete(x, its, 0));
        }
    }

    private static void deleteOfWhatIsGoneIsNoNo() {
        RekeyPeers x = Bench.agreeing(2);
        x.wish(0, DELETE, 0);
        x.wish(1, DELETE, 0);
        x.deliver(1, 0);
        Expect.same("gone at 1", x.children(1), 1);
        Expect.same("answered", x.deliver(0, 0), 1);
        Expect.same("gone at 0", x.children(0), 1);
        Expect.sameText("the answer has nothing", Bench.packet(x, 1, 0), "0 0 2 1 0 0 0");
        Expect.same("counts at 1", x.deliver(1, 0), 3);
        Expect.same("counts at 0", x.deliver(0, 0), 3);
        Expect.same("no other goes at 0", x.children(0), 1);
        Expect.same("no other goes at 1", x.children(1), 1);
        Expect.same("agreed", x.agreed(), 1);
    }

    private static void deleteTakesThatChildAlone() {
        for (int peer = 0; peer < 2; peer++) {
            for (int k : new int[] {0, 7, 15}) {
                RekeyPeers x = Bench.agreeing(16);
                int mark = x.child(0, k, 0);
                Bench.delete(x, peer, k);
                Expect.same("fifteen", x.agreed(), 15);
                Expect.same("fifteen at 0", x.children(0), 15);
                for (int i = 0; i < 15; i++) {
                    Expect.holds("it is none of these", x.child(0, i, 0) != mark);
                }
            }
        }
    }

    private static void theyStandAsTheyCame() {
        RekeyPeers x = Bench.agreeing(3);
        Bench.delete(x, 1, 0);
        Bench.open(x, 1);
        int[] marks = {3, 5, 7};
        for (int k = 0; k < 3; k++) {
            Expect.same("child " + k + " of 0", x.child(0, k, 0), marks[k]);
            Expect.same("child " + k + " of 1", x.child(1, k, 0), marks[k] + 1);
        }
    }

    private static void theWorthIsTheLesserOfBothNonces() {
        int[][] pairs = {{0, 0}, {0, 1}, {0x7fff, 0x8000}, {0x8000, 0xffff}, {0xfffe, 0xffff}, {0xffff, 0xffff}};
        for (int[] pair : pairs) {
            for (int peer = 0; peer < 2; peer++) {
                RekeyPeers x = Bench.ready();
                x.seed(peer, Bench.seedFor(pair[0]));
                x.seed(1 - peer, Bench.seedFor(pair[1]));
                Bench.open(x, 0);
                Expect.same("at 0", x.child(0, 0, 7), pair[0]);
                Expect.same("at 1", x.child(1, 0, 7), pair[0]);
                x.seed(peer, Bench.seedFor(pair[0]));
                x.seed(1 - peer, Bench.seedFor(pair[1]));
                x.wish(0, RENEW, 0);
                Bench.exchange(x, 0);
                Expect.same("renewed, at 0", x.child(0, 1, 7), pair[0]);
                Expect.same("renewed, at 1", x.child(1, 1, 7), pair[0]);
            }
        }
    }

    private static void allOfSixteenAreAgreed() {
        RekeyPeers x = new RekeyPeers();
        Expect.same("none at first", x.agreed(), 0);
        x.suite(0, 1);
        x.suite(1, 1);
        for (int many = 1; many <= 16; many++) {
            Bench.open(x, many % 2);
            Expect.same("so many", x.agreed(), many);
        }
        for (int many = 15; many >= 0; many--) {
            Bench.delete(x, many % 2, 0);
            Expect.same("so many again", x.agreed(), many);
        }
    }

    private static void whatOneHasAloneIsNotAgreed() {
        RekeyPeers x = oneMoreAtOne();
        Expect.same("one of 1 has none of 0", x.agreed(), 15);
        RekeyPeers y = Bench.agreeing(2);
        y.wish(0, DELETE, 0);
        y.deliver(1, 0);
        Expect.same("one of 0 has none of 1", y.agreed(), 1);
        y.deliver(0, 0);
        Expect.same("the other one is agreed", y.agreed(), 1);
    }
}
