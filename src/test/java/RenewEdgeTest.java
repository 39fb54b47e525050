/** The edges of RENEW: each NO, sixteen children, what is gone meanwhile, equal worths. */
final class RenewEdgeTest {
    private static final int OPEN = RekeyPeers.OPEN;
    private static final int RENEW = RekeyPeers.RENEW;
    private static final int DELETE = RekeyPeers.DELETE;
    private static final int NONE = RekeyPeers.NONE;
    private static final int HIGH = 60000;

    public static void main(String[] args) {
        aNoForAChildThatIsGone();
        aNoForOneThatIsRenewedFromHere();
        aNoForSixteenAndNoneForFifteen();
        aNewOneOfTheOthersMakesNoNo();
        theSixteenthIsTheNewOne();
        withSixteenWhatWasRenewedGoesAllTheSame();
        withSixteenBothAreWeighedAllTheSame();
        withSixteenEqualOnesAreWeighedAllTheSame();
        worthsSideBySideAreWeighed();
        equalWorthsAreToldByPeerZero();
        theOldOneIsGoneAndTheRivalIsWeighed();
        theRivalIsGoneMeanwhile();
        theDeleteComesBehindTheOtherWishes();
        theDeleteOfWhatIsGoneWaitsLikeAnyOther();
        theDeleteOfWhatFoundNoRoomWaitsLikeAnyOther();
        aRenewedOneMayBeRenewed();
        theNewOneHasTheSuiteAndRangeOfTheOld();
        Expect.end();
    }

    /** The answer to the RENEW that is out is NO, which takes no mark and no nonce, and nothing comes of it. */
    private static void isNo(RekeyPeers x, int peer, int nextMarkThere) {
        int there = x.children(1 - peer);
        int here = x.children(peer);
        x.seed(1 - peer, 70);
        Expect.same("answered", x.deliver(1 - peer, x.flying(1 - peer) - 1), 1);
        int answer = x.flying(peer) - 1;
        Expect.same("NO", x.packet(peer, answer, 3), 0);
        Expect.same("without a mark", x.packet(peer, answer, 4), 0);
        Expect.same("without a nonce", x.packet(peer, answer, 5), 0);
        Expect.same("no child there", x.children(1 - peer), there);
        Expect.same("counts", x.deliver(peer, answer), 3);
        Expect.same("no child here", x.children(peer), here);
        Expect.same("no DELETE", x.told(peer, 0), NONE);
        Expect.same("no wish", x.told(peer, 4), 0);
        Bench.settle(x);
        x.wish(1 - peer, OPEN, 0);
        Expect.same("the mark that was next", x.packet(peer, 0, 4), nextMarkThere);
        Expect.same("the nonce that was next", x.packet(peer, 0, 5), Bench.nonceBehind(70));
    }

    private static void aNoForAChildThatIsGone() {
        for (int peer = 0; peer < 2; peer++) {
            RekeyPeers x = Bench.agreeing(2);
            x.wish(1 - peer, DELETE, 0);
            x.wish(peer, RENEW, 0);
            x.deliver(peer, 0);
            x.deliver(1 - peer, 1);
            isNo(x, peer, 6 - peer);
        }
    }

    private static void aNoForOneThatIsRenewedFromHere() {
        for (int peer = 0; peer < 2; peer++) {
            RekeyPeers x = Bench.agreeing(2);
            x.wish(peer, RENEW, 0);
            x.wish(1 - peer, RENEW, 0);
            x.deliver(peer, 0);
            x.deliver(1 - peer, 1);
            Expect.same("the other one asked for a new one", x.child(1 - peer, 2, 6), 1);
            Expect.same("and has it", x.child(1 - peer, 2, 5), 2 - peer);
            isNo(x, peer, 8 - peer);
        }
    }

    private static void aNoForSixteenAndNoneForFifteen() {
        for (int peer = 0; peer < 2; peer++) {
            RekeyPeers x = Bench.agreeing(16);
            x.wish(peer, RENEW, 15);
            isNo(x, peer, 34 - peer);
            RekeyPeers y = Bench.agreeing(15);
            y.wish(peer, RENEW, 14);
            y.deliver(1 - peer, 0);
            Expect.same("no NO", y.packet(peer, 0, 3), 1);
            Expect.same("sixteen", y.children(1 - peer), 16);
        }
    }

    /**
     * Peer 1 asked for a new one and found no room for it, so that peer 0 has it alone; and asks
     * again.
     */
    private static void aNewOneOfTheOthersMakesNoNo() {
        RekeyPeers x = Bench.agreeing(15);
        x.wish(1, RENEW, 0);
        x.wish(1, RENEW, 0);
        x.wish(0, OPEN, 0);
        x.wish(0, DELETE, 14);
        x.deliver(1, 0);
        x.deliver(0, 0);
        Expect.same("peer 0 has a new one, not asked for here", x.child(0, 15, 5), 1);
        Expect.same("peer 1 has sixteen", x.children(1), 16);
        x.deliver(1, 0);
        Expect.same("so it asks again", x.told(1, 1), RENEW);
        Expect.same("for the same", x.packet(0, 1, 6), 2);
        x.deliver(0, 0);
        x.deliver(1, 0);
        x.deliver(0, 1);
        Expect.same("peer 0 has fifteen", x.children(0), 15);
        Expect.same("answered", x.deliver(0, 0), 1);
        Expect.same("no NO", x.packet(1, 0, 3), 1);
        Expect.same("peer 0 has two that renew it", x.child(0, 15, 5) + x.child(0, 14, 5), 2);
    }

    private static void theSixteenthIsTheNewOne() {
        for (int peer = 0; peer < 2; peer++) {
            RekeyPeers x = Bench.agreeing(15);
            x.wish(peer, RENEW, 3);
            Bench.exchange(x, peer);
            Expect.same("sixteen", x.agreed(), 16);
            Expect.same("the last one renews it", x.child(peer, 15, 5), 7 + peer);
            Expect.same("DELETE is out", x.told(peer, 1), DELETE);
            Bench.exchange(x, peer);
            Expect.same("fifteen again", x.agreed(), 15);
        }
    }

    private static void withSixteenWhatWasRenewedGoesAllTheSame() {
        for (int peer = 0; peer < 2; peer++) {
            RekeyPeers x = Bench.agreeing(15);
            x.wish(peer, RENEW, 0);
            x.wish(1 - peer, OPEN, 0);
            x.deliver(1 - peer, 0);
            x.deliver(peer, 0);
            Expect.same("sixteen", x.children(peer), 16);
            Expect.same("counts", x.deliver(peer, 0), 3);
            Expect.same("no new one", x.children(peer), 16);
            Expect.same("DELETE is out", x.told(peer, 1), DELETE);
            Expect.same("of what was renewed", x.packet(1 - peer, 1, 6), 1 + peer);
        }
    }

    /** Both renew child 0, and have each other's new one; both answers fly. */
    private static RekeyPeers colliding(int children, int worthOfZero, int worthOfOne) {
        RekeyPeers x = Bench.agreeing(children);
        x.seed(0, Bench.seedFor(worthOfZero));
        x.seed(1, Bench.seedFor(worthOfOne));
        x.wish(0, RENEW, 0);
        x.wish(1, RENEW, 0);
        x.seed(0, Bench.seedFor(HIGH));
        x.seed(1, Bench.seedFor(HIGH));
        x.deliver(0, 0);
        x.deliver(1, 0);
        return x;
    }

    /** With sixteen there is no new one, so that DELETE of it comes to nothing. */
    private static void withSixteenBothAreWeighedAllTheSame() {
        for (int lesser = 0; lesser < 2; lesser++) {
            RekeyPeers x = lesser == 0 ? colliding(15, 500, 501) : colliding(15, 501, 500);
            for (int peer = 0; peer < 2; peer++) {
                Expect.same("sixteen", x.children(peer), 16);
                Expect.same("counts", x.deliver(peer, 0), 3);
                Expect.same("no new one", x.children(peer), 16);
            }
            Expect.same("DELETE of the new one comes to nothing", x.told(lesser, 0), NONE);
            Expect.same("and does not wait", x.told(lesser, 4), 0);
            Expect.same("the other one's DELETE is out", x.told(1 - lesser, 1), DELETE);
            Expect.same("of what was renewed", x.packet(lesser, 0, 6), 2 - lesser);
        }
    }

    private static void withSixteenEqualOnesAreWeighedAllTheSame() {
        RekeyPeers x = colliding(15, 500, 500);
        x.deliver(0, 0);
        x.deliver(1, 0);
        Expect.same("that of 0 is too much, and is not there", x.told(0, 0), NONE);
        Expect.same("1 deletes what was renewed", x.packet(0, 0, 6), 2);
    }

    private static void worthsSideBySideAreWeighed() {
        int[][] pairs = {{0, 1}, {1, 0}, {0x7fff, 0x8000}, {0x8000, 0x7fff}, {HIGH - 1, HIGH}, {HIGH, HIGH - 1}};
        for (int[] pair : pairs) {
            RekeyPeers x = colliding(2, pair[0], pair[1]);
            x.deliver(0, 0);
            x.deliver(1, 0);
            boolean zeroLoses = pair[0] < pair[1];
            Expect.same("0 deletes", x.packet(1, 0, 6), zeroLoses ? 5 : 1);
            Expect.same("1 deletes", x.packet(0, 0, 6), zeroLoses ? 2 : 6);
            Bench.settle(x);
            Expect.same("two are left", x.agreed(), 2);
            Expect.same("two at 0", x.children(0), 2);
            Expect.same("two at 1", x.children(1), 2);
            Expect.same("the higher worth", x.child(0, 1, 7), Math.max(pair[0], pair[1]));
        }
    }

    private static void equalWorthsAreToldByPeerZero() {
        for (int worth : new int[] {0, 1, 0x7fff, 0x8000, HIGH}) {
            for (int first = 0; first < 2; first++) {
                RekeyPeers x = colliding(1, worth, worth);
                x.deliver(first, 0);
                x.deliver(1 - first, 0);
                Expect.same("the worths are equal", x.child(0, 1, 7), x.child(0, 2, 7));
                Expect.same("0 deletes what it asked for", x.packet(1, 0, 6), 3);
                Expect.same("1 deletes what was renewed", x.packet(0, 0, 6), 2);
                Bench.settle(x);
                Expect.same("one is left", x.agreed(), 1);
                Expect.same("that of 1", x.child(0, 0, 0), 5);
            }
        }
    }

    private static void theOldOneIsGoneAndTheRivalIsWeighed() {
        RekeyPeers x = colliding(1, 100, 200);
        x.deliver(1, 0);
        x.deliver(0, 1);
        Expect.same("the old one is gone", x.children(0), 1);
        Expect.same("the rival is there", x.child(0, 0, 5), 1);
        Expect.same("counts", x.deliver(0, 0), 3);
        Expect.sameText("the new one is there", Bench.child(x, 0, 1), "3 6 1 0 1000 1 1 100");
        Expect.same("but is too much", x.packet(1, x.flying(1) - 1, 6), 3);
        Bench.settle(x);
        Expect.same("one is left", x.agreed(), 1);
        Expect.same("of the higher worth", x.child(0, 0, 7), 200);
    }

    private static void theRivalIsGoneMeanwhile() {
        RekeyPeers x = colliding(1, 200, 100);
        x.deliver(1, 0);
        Expect.same("1 deletes what it asked for", x.packet(0, 1, 6), 4);
        x.deliver(0, 1);
        Expect.same("the rival is gone", x.children(0), 1);
        Expect.same("counts", x.deliver(0, 0), 3);
        Expect.same("DELETE of what was renewed", x.packet(1, x.flying(1) - 1, 6), 1);
        Bench.settle(x);
        Expect.same("one is left", x.agreed(), 1);
        Expect.same("and no more", x.children(0) + x.children(1), 2);
    }

    private static void theDeleteComesBehindTheOtherWishes() {
        for (int lesser = 0; lesser < 2; lesser++) {
            RekeyPeers x = lesser == 0 ? colliding(1, 7, 8) : colliding(1, 8, 7);
            x.wish(0, OPEN, 0);
            x.wish(0, OPEN, 0);
            x.deliver(0, 0);
            Expect.same("OPEN is out", x.told(0, 1), OPEN);
            Expect.same("OPEN and DELETE wait", x.told(0, 4), 2);
            Bench.exchange(x, 0);
            Expect.same("OPEN is out", x.told(0, 1), OPEN);
            Bench.exchange(x, 0);
            Expect.same("DELETE is out", x.told(0, 1), DELETE);
            Expect.same("of this", x.packet(1, x.flying(1) - 1, 6), lesser == 0 ? 3 : 1);
        }
    }

    private static void theDeleteOfWhatIsGoneWaitsLikeAnyOther() {
        RekeyPeers x = Bench.agreeing(1);
        x.wish(0, RENEW, 0);
        x.wish(0, OPEN, 0);
        x.deliver(1, 0);
        x.wish(1, DELETE, 0);
        x.deliver(0, 1);
        Expect.same("the old one is gone", x.children(0), 0);
        x.deliver(0, 0);
        Expect.same("OPEN is out", x.told(0, 1), OPEN);
        Expect.same("DELETE waits", x.told(0, 4), 1);
        Bench.exchange(x, 0);
        Expect.same("it was taken", x.told(0, 4), 0);
        Expect.same("and nothing came of it", x.told(0, 0), NONE);
    }

    private static void theDeleteOfWhatFoundNoRoomWaitsLikeAnyOther() {
        RekeyPeers x = colliding(15, 500, 501);
        x.wish(0, OPEN, 0);
        x.deliver(0, 0);
        Expect.same("OPEN is out", x.told(0, 1), OPEN);
        Expect.same("DELETE waits", x.told(0, 4), 1);
        Bench.exchange(x, 0);
        Expect.same("it was taken", x.told(0, 4), 0);
        Expect.same("and nothing came of it", x.told(0, 0), NONE);
    }

    private static void aRenewedOneMayBeRenewed() {
        RekeyPeers x = Bench.agreeing(1);
        for (int i = 0; i < 5; i++) {
            int old = x.child(0, 0, 0);
            int oldThere = x.child(1, 0, 0);
            int peer = i % 2;
            x.wish(peer, RENEW, 0);
            Bench.settle(x);
            Expect.same("one is left", x.agreed(), 1);
            Expect.same("it renews that one", x.child(0, 0, 5), old);
            Expect.same("and there that one", x.child(1, 0, 5), oldThere);
            Expect.same("asked for by", x.child(peer, 0, 6), 1);
            Expect.same("not by the other", x.child(1 - peer, 0, 6), 0);
        }
    }

    private static void theNewOneHasTheSuiteAndRangeOfTheOld() {
        RekeyPeers x = new RekeyPeers();
        x.suite(0, 9);
        x.suite(1, 9);
        x.range(0, 0, 0);
        Bench.open(x, 0);
        x.range(0, 1000, 1000);
        x.suite(0, 1);
        x.suite(1, 1);
        Bench.open(x, 1);
        x.wish(0, RENEW, 0);
        x.wish(1, RENEW, 1);
        Bench.settle(x);
        Expect.same("two", x.agreed(), 2);
        Expect.same("both of suite 9", x.child(0, 0, 2) + x.child(0, 1, 2), 18);
        Expect.same("one at 0, one at 1000", x.child(0, 0, 4) + x.child(0, 1, 4), 1000);
        Expect.same("from 0, from 1000", x.child(0, 0, 3) + x.child(0, 1, 3), 1000);
    }
}
