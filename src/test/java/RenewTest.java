/** What RENEW comes to, alone and when both peers renew the same child at once. */
final class RenewTest {
    private static final int OPEN = RekeyPeers.OPEN;
    private static final int RENEW = RekeyPeers.RENEW;
    private static final int DELETE = RekeyPeers.DELETE;

    public static void main(String[] args) {
        renewingAloneReplacesTheChild();
        whatIsRenewedKeepsItsSuiteAndRange();
        noWithoutSuchAChild();
        noIfItIsRenewedFromHere();
        noWithSixteen();
        theLesserWorthGoes();
        ofEqualOnesThatOfPeerZeroGoes();
        theWinnerIsKnownBeforeTheRivalsAnswer();
        theOldOneMayBeGoneMeanwhile();
        withSixteenTheOldOneIsDeletedAllTheSame();
        withSixteenTheRivalIsWeighedAllTheSame();
        renewingAnswersTwiceMakeOneChild();
        Expect.end();
    }

    private static void renewingAloneReplacesTheChild() {
        for (int peer = 0; peer < 2; peer++) {
            RekeyPeers x = Bench.agreeing(2);
            x.seed(peer, Bench.seedFor(300));
            x.seed(1 - peer, Bench.seedFor(200));
            x.wish(peer, RENEW, 0);
            Bench.exchange(x, peer);
            int old = x.child(peer, 0, 0);
            int oldThere = x.child(1 - peer, 0, 0);
            int mark = 5 + peer;
            int markThere = 6 - peer;
            Expect.sameText("here", Bench.child(x, peer, 2), mark + " " + markThere + " 1 0 1000 " + old + " 1 200");
            Expect.sameText("there", Bench.child(x, 1 - peer, 2),
                    markThere + " " + mark + " 1 0 1000 " + oldThere + " 0 200");
            Expect.same("agreed", x.agreed(), 3);
            Expect.same("DELETE is out", x.told(peer, 1), DELETE);
            Expect.same("of the old one", x.packet(1 - peer, 0, 6), old);
            Bench.exchange(x, peer);
            Expect.same("two again", x.agreed(), 2);
            Expect.same("the old one is gone", x.child(peer, 1, 0), mark);
            Expect.same("what it renews is told still", x.child(peer, 1, 5), old);
            Expect.same("nothing flies", x.flying(0) + x.flying(1), 0);
        }
    }

    private static void whatIsRenewedKeepsItsSuiteAndRange() {
        RekeyPeers x = new RekeyPeers();
        x.suite(0, 8);
        x.suite(1, 8);
        x.range(0, 100, 200);
        Bench.open(x, 1);
        x.range(0, 700, 800);
        x.range(1, 1, 2);
        x.wish(0, RENEW, 0);
        Bench.settle(x);
        Expect.same("agreed", x.agreed(), 1);
        Expect.same("suite", x.child(0, 0, 2), 8);
        Expect.same("low", x.child(0, 0, 3), 100);
        Expect.same("high", x.child(0, 0, 4), 200);
    }

    private static void noWithoutSuchAChild() {
        RekeyPeers x = Bench.agreeing(1);
        x.wish(0, RENEW, 0);
        x.wish(1, DELETE, 0);
        x.deliver(0, 0);
        x.deliver(1, 1);
        Expect.same("it is gone at 1", x.children(1), 0);
        Expect.same("RENEW is answered", x.deliver(1, 0), 1);
        Expect.same("with NO", x.packet(0, 0, 3), 0);
        Expect.same("which counts", x.deliver(0, 0), 3);
        Expect.sameText("and nothing follows", Bench.told(x, 0), "-1 -1 0 0 0 0 2 1");
        Expect.same("no child", x.children(0) + x.children(1), 0);
    }

    private static void noIfItIsRenewedFromHere() {
        RekeyPeers x = Bench.agreeing(1);
        x.wish(0, RENEW, 0);
        x.wish(1, RENEW, 0);
        x.deliver(0, 0);
        x.deliver(1, 1);
        Expect.same("1 has its renewed one", x.children(1), 2);
        Expect.same("asked for there", x.child(1, 1, 6), 1);
        x.deliver(1, 0);
        Expect.same("NO", x.packet(0, x.flying(0) - 1, 3), 0);
        Expect.same("no third", x.children(1), 2);
        Bench.settle(x);
        Expect.same("one each", x.agreed(), 1);
        Expect.same("and no more", x.children(0) + x.children(1), 2);
        Expect.same("that which 1 asked for", x.child(1, 0, 6), 1);
    }

    private static void noWithSixteen() {
        RekeyPeers x = Bench.agreeing(16);
        x.wish(0, RENEW, 5);
        x.deliver(1, 0);
        Expect.same("NO", x.packet(0, 0, 3), 0);
        x.deliver(0, 0);
        Expect.same("nothing follows", x.told(0, 0), RekeyPeers.NONE);
        Expect.same("sixteen", x.agreed(), 16);
    }

    /** Both renew child 0; the worth of what peer 0 asks for is the first, of peer 1's the second. */
    private static RekeyPeers colliding(int children, int worthOfZero, int worthOfOne) {
        RekeyPeers x = Bench.agreeing(children);
        x.seed(0, Bench.seedFor(worthOfZero));
        x.wish(0, RENEW, 0);
        x.seed(1, Bench.seedFor(worthOfOne));
        x.wish(1, RENEW, 0);
        x.seed(0, Bench.seedFor(65535));
        x.seed(1, Bench.seedFor(65535));
        x.deliver(0, 0);
        x.deliver(1, 0);
        return x;
    }

    private static void theLesserWorthGoes() {
        int[][] worths = {{100, 200}, {200, 100}, {0, 65535}, {65535, 0}, {40000, 32000}};
        for (int[] pair : worths) {
            RekeyPeers x = colliding(1, pair[0], pair[1]);
            Expect.same("both answered", x.children(0) + x.children(1), 4);
            x.deliver(0, 0);
            x.deliver(1, 0);
            Expect.same("all are agreed", x.agreed(), 3);
            boolean zeroLoses = pair[0] < pair[1];
            Expect.same("0 deletes", x.packet(1, 0, 6), zeroLoses ? 3 : 1);
            Expect.same("1 deletes", x.packet(0, 0, 6), zeroLoses ? 2 : 4);
            Bench.settle(x);
            Expect.same("one is left", x.children(0), 1);
            Expect.same("one is left at 1", x.children(1), 1);
            Expect.same("the same", x.agreed(), 1);
            Expect.same("of the higher worth", x.child(0, 0, 7), Math.max(pair[0], pair[1]));
            Expect.same("asked for by", x.child(0, 0, 6), zeroLoses ? 0 : 1);
        }
    }

    private static void ofEqualOnesThatOfPeerZeroGoes() {
        for (int worth : new int[] {0, 1234, 65535}) {
            RekeyPeers x = colliding(1, worth, worth);
            x.deliver(1, 0);
            x.deliver(0, 0);
            Expect.same("0 deletes what it asked for", x.packet(1, 0, 6), 3);
            Expect.same("1 deletes what was renewed", x.packet(0, 0, 6), 2);
            Bench.settle(x);
            Expect.same("one is left", x.agreed(), 1);
            Expect.same("and no more", x.children(0) + x.children(1), 2);
            Expect.same("that which 1 asked for", x.child(1, 0, 6), 1);
        }
    }

    private static void theWinnerIsKnownBeforeTheRivalsAnswer() {
        RekeyPeers x = Bench.agreeing(1);
        x.seed(0, Bench.seedFor(100));
        x.wish(0, RENEW, 0);
        x.seed(1, Bench.seedFor(900));
        x.wish(1, RENEW, 0);
        x.seed(1, Bench.seedFor(500));
        x.deliver(1, 0);
        Expect.same("0 has no rival when its answer comes", x.deliver(0, 1), 3);
        Expect.same("so it deletes what was renewed", x.packet(1, 0, 6), 1);
        x.deliver(0, 0);
        Expect.same("and answers NO", x.packet(1, 1, 3), 0);
        Bench.settle(x);
        Expect.same("one is left", x.agreed(), 1);
        Expect.same("that which 0 asked for", x.child(0, 0, 6), 1);
    }

    private static void theOldOneMayBeGoneMeanwhile() {
        RekeyPeers x = new RekeyPeers();
        x.suite(0, 3);
        x.suite(1, 3);
        x.range(0, 5, 50);
        Bench.open(x, 0);
        x.wish(0, RENEW, 0);
        x.deliver(1, 0);
        x.wish(1, DELETE, 0);
        x.deliver(0, 1);
        Expect.same("the old one is gone", x.children(0), 0);
        x.range(0, 60, 70);
        Expect.same("the answer counts", x.deliver(0, 0), 3);
        int worth = x.child(1, 1, 7);
        Expect.sameText("as the old one was", Bench.child(x, 0, 0), "3 4 3 5 50 1 1 " + worth);
        Expect.sameText("no DELETE comes of it", Bench.told(x, 0), "-1 -1 0 0 0 0 2 1");
        Bench.settle(x);
        Expect.same("agreed", x.agreed(), 1);
    }

    private static void withSixteenTheOldOneIsDeletedAllTheSame() {
        RekeyPeers x = Bench.agreeing(15);
        x.wish(0, RENEW, 0);
        x.deliver(1, 0);
        x.wish(1, OPEN, 0);
        x.deliver(0, 1);
        Expect.same("0 has sixteen", x.children(0), 16);
        Expect.same("the answer counts", x.deliver(0, 0), 3);
        Expect.same("no child", x.children(0), 16);
        Expect.same("the last one is the other's", x.child(0, 15, 6), 0);
        Expect.same("DELETE is out", x.told(0, 1), DELETE);
        Expect.same("of the old one", x.packet(1, x.flying(1) - 1, 6), 1);
    }

    private static void withSixteenTheRivalIsWeighedAllTheSame() {
        RekeyPeers x = colliding(15, 100, 200);
        Expect.same("0 has sixteen", x.children(0), 16);
        Expect.same("the answer counts at 0", x.deliver(0, 0), 3);
        Expect.same("no child at 0", x.children(0), 16);
        Expect.same("DELETE of what is not there comes to nothing", x.told(0, 0), RekeyPeers.NONE);
        Expect.same("none waits", x.told(0, 4), 0);
        Expect.same("the answer counts at 1", x.deliver(1, 0), 3);
        Expect.same("no child at 1", x.children(1), 16);
        Expect.same("1 deletes what was renewed", x.packet(0, 0, 6), 2);
    }

    private static void renewingAnswersTwiceMakeOneChild() {
        RekeyPeers x = Bench.agreeing(1);
        x.wish(0, RENEW, 0);
        x.twice(1, 0);
        x.deliver(1, 0);
        Expect.same("again", x.deliver(1, 0), 2);
        Expect.same("one child", x.children(1), 2);
        x.deliver(0, 0);
        Expect.same("the second answer is passed over", x.deliver(0, 0), 0);
        Expect.same("one child at 0", x.children(0), 2);
        Expect.same("one DELETE", x.flying(1), 1);
    }
}
