/** The edges of promise 5: ten wishes, the first and the last child, wishes of which nothing comes. */
final class WishEdgeTest {
    private static final int OPEN = RekeyPeers.OPEN;
    private static final int RENEW = RekeyPeers.RENEW;
    private static final int DELETE = RekeyPeers.DELETE;
    private static final int NONE = RekeyPeers.NONE;

    public static void main(String[] args) {
        aTenthWaitsAndAnEleventhIsRefused();
        theWishThatMadeTheRequestIsNoneOfTheTen();
        tenOfOnePeerAreNoneOfTheOther();
        openLooksAtNoChild();
        theFirstAndTheLastChildMayBeWishedFor();
        aWishKeepsItsChildThoughOthersGo();
        tenOfNoUseAreAllTakenAtOnce();
        aWishOfNoUseTakesNoNumberMarkOrNonce();
        nothingComesOfTheWishForAChildThatTheOtherOneDeleted();
        nothingComesOfRenewWhileANewOneIsThere();
        renewMayComeAgainWhenTheNewOneIsGone();
        openGoesOnWithSixteenChildren();
        aNoLetsTheNextWishBeTaken();
        theNumbersBeginWithZero();
        numbersAndMarksGoOnAsLongAsAnObjectIsUsed();
        anAnswersDeleteMayBeTheEleventh();
        anAnswersDeleteOfTheNewOneMayBeTheEleventh();
        theWishesOfADeadPeerWaitForEver();
        Expect.end();
    }

    private static void aTenthWaitsAndAnEleventhIsRefused() {
        for (int peer = 0; peer < 2; peer++) {
            for (int kind = OPEN; kind <= DELETE; kind++) {
                int its = peer;
                int wished = kind;
                RekeyPeers x = Bench.agreeing(1);
                x.wish(peer, OPEN, 0);
                for (int i = 1; i <= 10; i++) {
                    Expect.same("wish " + i, x.wish(peer, kind, 0), i);
                }
                Expect.throwsUnsupported("an eleventh", () -> x.wish(its, wished, 0));
                Expect.same("ten wait", x.told(peer, 4), 10);
                Expect.same("the request that is out is the same", x.told(peer, 6), peer == 0 ? 2 : 1);
            }
        }
    }

    private static void theWishThatMadeTheRequestIsNoneOfTheTen() {
        RekeyPeers x = Bench.agreeing(1);
        for (int i = 0; i < 11; i++) {
            x.wish(1, OPEN, 0);
        }
        Expect.same("ten wait", x.told(1, 4), 10);
        Bench.exchange(x, 1);
        Expect.same("one was taken", x.told(1, 4), 9);
        Expect.same("one more may come", x.wish(1, OPEN, 0), 10);
        Expect.throwsUnsupported("and no other", () -> x.wish(1, OPEN, 0));
    }

    private static void tenOfOnePeerAreNoneOfTheOther() {
        RekeyPeers x = Bench.agreeing(1);
        for (int i = 0; i < 11; i++) {
            x.wish(0, OPEN, 0);
        }
        for (int i = 0; i < 11; i++) {
            Expect.same("wish " + i + " of 1", x.wish(1, OPEN, 0), Math.max(i, 1));
        }
        Expect.same("ten of 0", x.told(0, 4), 10);
        Expect.same("ten of 1", x.told(1, 4), 10);
    }

    private static void openLooksAtNoChild() {
        for (int k : new int[] {Integer.MIN_VALUE, -1, 0, 1, 16, Integer.MAX_VALUE}) {
            RekeyPeers x = new RekeyPeers();
            Expect.same("OPEN", x.wish(0, OPEN, k), 1);
            Expect.same("is out", x.told(0, 1), OPEN);
            Expect.same("of no child", x.packet(1, 0, 6), 0);
        }
    }

    private static void theFirstAndTheLastChildMayBeWishedFor() {
        for (int kind : new int[] {RENEW, DELETE}) {
            for (int peer = 0; peer < 2; peer++) {
                for (int k : new int[] {0, 7, 15}) {
                    RekeyPeers x = Bench.agreeing(16);
                    Expect.same("child " + k, x.wish(peer, kind, k), 1);
                    Expect.same("its mark", x.packet(1 - peer, 0, 6), 2 * k + 1 + peer);
                }
            }
        }
    }

    private static void aWishKeepsItsChildThoughOthersGo() {
        RekeyPeers x = Bench.agreeing(4);
        x.wish(0, DELETE, 0);
        x.wish(0, DELETE, 2);
        x.wish(0, RENEW, 3);
        Bench.exchange(x, 0);
        Expect.same("the child of then", x.packet(1, 0, 6), 5);
        Bench.exchange(x, 0);
        Expect.same("the last one of then", x.packet(1, 0, 6), 7);
        Expect.same("is renewed", x.told(0, 1), RENEW);
    }

    private static void tenOfNoUseAreAllTakenAtOnce() {
        for (int peer = 0; peer < 2; peer++) {
            RekeyPeers x = Bench.agreeing(2);
            x.wish(peer, DELETE, 1);
            for (int i = 0; i < 5; i++) {
                x.wish(peer, DELETE, 1);
                x.wish(peer, RENEW, 1);
            }
            Expect.same("ten wait", x.told(peer, 4), 10);
            Bench.exchange(x, peer);
            Expect.same("none waits", x.told(peer, 4), 0);
            Expect.same("none is out", x.told(peer, 0), NONE);
            Expect.same("nothing flies", x.flying(0) + x.flying(1), 0);
            Expect.same("the other child is there", x.agreed(), 1);
        }
    }

    private static void aWishOfNoUseTakesNoNumberMarkOrNonce() {
        RekeyPeers x = Bench.agreeing(2);
        x.seed(0, 600);
        x.wish(0, DELETE, 0);
        x.wish(0, RENEW, 0);
        x.wish(0, DELETE, 0);
        x.wish(0, OPEN, 0);
        Bench.exchange(x, 0);
        Expect.sameText("the next number, mark and nonce", Bench.packet(x, 1, 0),
                "1 3 0 1 5 " + Bench.nonceBehind(600) + " 0");
    }

    private static void nothingComesOfTheWishForAChildThatTheOtherOneDeleted() {
        for (int kind : new int[] {RENEW, DELETE}) {
            RekeyPeers x = Bench.agreeing(1);
            x.wish(0, OPEN, 0);
            x.wish(0, kind, 0);
            x.wish(1, DELETE, 0);
            x.deliver(0, 0);
            Expect.same("it is gone", x.children(0), 0);
            Expect.same("the wish waits", x.told(0, 4), 1);
            x.deliver(1, 0);
            x.deliver(0, 0);
            Expect.same("the wish is taken", x.told(0, 4), 0);
            Expect.same("nothing came of it", x.told(0, 0), NONE);
        }
    }

    private static void nothingComesOfRenewWhileANewOneIsThere() {
        RekeyPeers x = Bench.agreeing(1);
        x.wish(0, RENEW, 0);
        x.wish(0, RENEW, 0);
        x.deliver(1, 0);
        Expect.same("a wish of 1", x.wish(1, RENEW, 0), 1);
        Expect.same("a new one, which 0 asked for, is there", x.told(1, 0), NONE);
        x.deliver(0, 0);
        Expect.same("a new one, asked for here, is there", x.told(0, 1), DELETE);
        Expect.same("none waits", x.told(0, 4), 0);
        Expect.same("DELETE of the old one may be wished for", x.wish(1, DELETE, 0), 1);
        Expect.same("and is out", x.told(1, 1), DELETE);
    }

    private static void renewMayComeAgainWhenTheNewOneIsGone() {
        RekeyPeers x = Bench.agreeing(1);
        x.wish(0, RENEW, 0);
        x.wish(0, OPEN, 0);
        x.wish(0, RENEW, 0);
        Bench.exchange(x, 0);
        Expect.same("the new one is there", x.child(0, 1, 5), 1);
        Expect.same("OPEN is out", x.told(0, 1), OPEN);
        x.wish(1, DELETE, 1);
        x.deliver(0, 0);
        Expect.same("the new one is gone", x.children(0), 1);
        x.deliver(1, 0);
        x.deliver(0, 0);
        Expect.sameText("RENEW is out, DELETE of the old one waits", Bench.told(x, 0), "3 1 1 4 1 0 4 1");
        Expect.same("of the same", x.packet(1, x.flying(1) - 1, 6), 1);
    }

    private static void openGoesOnWithSixteenChildren() {
        RekeyPeers x = Bench.agreeing(16);
        Expect.same("OPEN", x.wish(0, OPEN, 0), 1);
        Expect.same("makes a request", x.flying(1), 1);
        Expect.same("with a mark", x.packet(1, 0, 4), 33);
        Expect.same("RENEW", x.wish(1, RENEW, 15), 1);
        Expect.same("makes one, too", x.flying(0), 1);
        Expect.same("with a mark, too", x.packet(0, 0, 4), 34);
    }

    private static void aNoLetsTheNextWishBeTaken() {
        RekeyPeers x = new RekeyPeers();
        x.wish(0, OPEN, 0);
        x.wish(0, OPEN, 0);
        x.deliver(1, 0);
        Expect.same("NO", x.packet(0, 0, 3), 0);
        x.deliver(0, 0);
        Expect.sameText("the next is out", Bench.told(x, 0), "1 0 1 4 0 0 2 0");
        Expect.same("the mark of the first is used up", x.packet(1, 0, 4), 3);
    }

    private static void theNumbersBeginWithZero() {
        for (int peer = 0; peer < 2; peer++) {
            RekeyPeers x = Bench.ready();
            for (int number = 0; number < 20; number++) {
                Expect.same("next one's number", x.told(peer, 6), number);
                Expect.same("next one's that is answered", x.told(1 - peer, 7), number);
                x.wish(peer, number % 2 == 0 ? OPEN : DELETE, 0);
                Expect.same("its number", x.told(peer, 0), number);
                Expect.same("the packet's", x.packet(1 - peer, 0, 1), number);
                x.deliver(1 - peer, 0);
                Expect.same("the answer's", x.packet(peer, 0, 1), number);
                x.deliver(peer, 0);
            }
            Expect.same("those of the other did not begin", x.told(1 - peer, 6), 0);
        }
    }

    /** 510 calls; without suites all is NO, so that the asking one alone gives marks. */
    private static void numbersAndMarksGoOnAsLongAsAnObjectIsUsed() {
        for (int peer = 0; peer < 2; peer++) {
            RekeyPeers x = new RekeyPeers();
            for (int number = 0; number < 169; number++) {
                x.wish(peer, OPEN, 0);
                Expect.same("answered", x.deliver(1 - peer, 0), 1);
                Expect.same("counts", x.deliver(peer, 0), 3);
            }
            x.wish(peer, OPEN, 0);
            Expect.same("the last number", x.packet(1 - peer, 0, 1), 169);
            Expect.same("the last mark", x.packet(1 - peer, 0, 4), 339 + peer);
        }
    }

    private static void anAnswersDeleteMayBeTheEleventh() {
        for (int peer = 0; peer < 2; peer++) {
            int its = peer;
            RekeyPeers x = Bench.agreeing(1);
            x.wish(peer, RENEW, 0);
            for (int i = 0; i < 10; i++) {
                x.wish(peer, OPEN, 0);
            }
            Bench.exchange(x, peer);
            Expect.same("one was taken, DELETE came", x.told(peer, 4), 10);
            Expect.throwsUnsupported("a call's wish may not", () -> x.wish(its, OPEN, 0));
            for (int left = 9; left >= 0; left--) {
                Expect.same("OPEN is out", x.told(peer, 1), OPEN);
                Bench.exchange(x, peer);
                Expect.same("one less", x.told(peer, 4), left);
            }
            Expect.same("DELETE is the last", x.told(peer, 1), DELETE);
            Expect.same("of what was renewed", x.packet(1 - peer, 0, 6), 1 + peer);
        }
    }

    private static void anAnswersDeleteOfTheNewOneMayBeTheEleventh() {
        RekeyPeers x = Bench.agreeing(1);
        x.seed(0, Bench.seedFor(1));
        x.wish(0, RENEW, 0);
        x.seed(1, Bench.seedFor(2));
        x.wish(1, RENEW, 0);
        for (int i = 0; i < 10; i++) {
            x.wish(0, DELETE, 0);
        }
        x.seed(0, Bench.seedFor(3));
        x.deliver(0, 0);
        x.deliver(1, 0);
        x.deliver(0, 0);
        Expect.same("one was taken, DELETE came", x.told(0, 4), 10);
        Expect.throwsUnsupported("a call's wish may not", () -> x.wish(0, OPEN, 0));
        Bench.exchange(x, 0);
        Expect.sameText("nine are of no use, DELETE is the last", Bench.told(x, 0), "3 2 1 4 0 0 4 1");
        Expect.same("of the new one", x.packet(1, 1, 6), 3);
    }

    private static void theWishesOfADeadPeerWaitForEver() {
        RekeyPeers x = Bench.agreeing(1);
        x.wish(0, OPEN, 0);
        x.wish(0, OPEN, 0);
        x.wish(0, DELETE, 0);
        x.tick(124);
        Expect.same("dead", x.told(0, 5), 1);
        Expect.same("two wait", x.told(0, 4), 2);
        Bench.loseAll(x, 1);
        x.wish(1, DELETE, 0);
        x.deliver(0, 0);
        x.tick(1000);
        Expect.same("two wait still", x.told(0, 4), 2);
        Expect.same("nothing was sent", x.flying(1), 0);
        Expect.throwsState("a third", () -> x.wish(0, OPEN, 0));
        Expect.same("two wait still", x.told(0, 4), 2);
    }
}
