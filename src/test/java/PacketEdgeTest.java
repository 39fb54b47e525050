/** The edges of promises 6, 7, 8, 12 and 13: numbers, thirty packets, the empty flight, dead peers. */
final class PacketEdgeTest {
    private static final int OPEN = RekeyPeers.OPEN;
    private static final int RENEW = RekeyPeers.RENEW;
    private static final int DELETE = RekeyPeers.DELETE;
    private static final int NONE = RekeyPeers.NONE;

    public static void main(String[] args) {
        theLatestRequestIsAnsweredAgain();
        anyOlderRequestIsPassedOver();
        aNoFliesAgainThoughItWouldBeNoneNow();
        theNumbersOfBothPeersAreApart();
        anAnswerCountsOnce();
        anAnswerToAnOlderRequestIsPassedOver();
        anAnswerWithoutARequestIsPassedOver();
        nothingFliesAtFirst();
        theFirstAndTheLastOfThirty();
        theThirtiethDoubledFliesAndTheNextIsLost();
        theThirtiethRequestFliesAndTheNextIsLost();
        theThirtiethSentAgainFliesAndTheNextIsLost();
        theThirtiethAnswerFliesAndTheNextIsLost();
        theThirtiethAnswerAgainFliesAndTheNextIsLost();
        thirtyToOnePeerAreNoneToTheOther();
        aDeadPeerAnswersNothing();
        aDeadPeerTakesNoAnswer();
        whatIsNotThereIsZero();
        Expect.end();
    }

    /** Peer 0's request of that kind is out, and flies. */
    private static RekeyPeers asking(int kind) {
        RekeyPeers x = Bench.agreeing(2);
        x.wish(0, kind, 1);
        return x;
    }

    private static void theLatestRequestIsAnsweredAgain() {
        for (int kind = OPEN; kind <= DELETE; kind++) {
            RekeyPeers x = asking(kind);
            Bench.fill(x, 1, 4);
            Expect.same("answered", x.deliver(1, 0), 1);
            String answer = Bench.packet(x, 0, 0);
            int children = x.children(1);
            for (int again = 1; again <= 2; again++) {
                Expect.same("answered again", x.deliver(1, 0), 2);
                Expect.sameText("the same answer", Bench.packet(x, 0, again), answer);
                Expect.same("no more comes of it", x.children(1), children);
                Expect.same("the next number is the same", x.told(1, 7), 3);
            }
            x.deliver(0, 0);
            Bench.loseAll(x, 0);
            Expect.same("behind the answer, too", x.deliver(1, 0), 2);
        }
    }

    private static void anyOlderRequestIsPassedOver() {
        for (int kind = OPEN; kind <= DELETE; kind++) {
            RekeyPeers x = asking(kind);
            x.wish(0, OPEN, 0);
            Bench.fill(x, 1, 3);
            x.deliver(1, 0);
            x.deliver(0, 0);
            Bench.exchange(x, 0);
            Expect.same("the latest is the next one", x.told(1, 7), 4);
            String before = Bench.child(x, 1, 0);
            int children = x.children(1);
            int flies = x.flying(0);
            Expect.same("the one before it", x.deliver(1, 0), 0);
            Expect.same("has no answer", x.flying(0), flies);
            Expect.same("and no child", x.children(1), children);
            Expect.sameText("and changes none", Bench.child(x, 1, 0), before);
            Expect.same("the next number is the same", x.told(1, 7), 4);
            Expect.same("it is gone", x.packet(1, 0, 1), 2);
            Bench.open(x, 0);
            Expect.same("one that is older yet", x.deliver(1, 0), 0);
        }
    }

    private static void aNoFliesAgainThoughItWouldBeNoneNow() {
        RekeyPeers x = new RekeyPeers();
        x.suite(0, 1);
        x.wish(0, OPEN, 0);
        x.twice(1, 0);
        x.deliver(1, 0);
        x.suite(1, 1);
        Expect.same("answered again", x.deliver(1, 0), 2);
        Expect.sameText("with NO", Bench.packet(x, 0, 1), "0 0 0 0 0 0 0");
        Expect.same("no child", x.children(1), 0);
    }

    private static void theNumbersOfBothPeersAreApart() {
        RekeyPeers x = Bench.agreeing(3);
        x.wish(1, OPEN, 0);
        Expect.same("number 0 of 1", x.packet(0, 0, 1), 0);
        Expect.same("is the next one of 1", x.deliver(0, 0), 1);
        Expect.same("and its answer counts", x.deliver(1, 0), 3);
        Expect.sameText("of 0", Bench.told(x, 0), "-1 -1 0 0 0 0 3 1");
        Expect.sameText("of 1", Bench.told(x, 1), "-1 -1 0 0 0 0 1 3");
    }

    private static void anAnswerCountsOnce() {
        for (int kind = OPEN; kind <= DELETE; kind++) {
            RekeyPeers x = asking(kind);
            x.deliver(1, 0);
            Bench.fill(x, 0, 3);
            Expect.same("counts", x.deliver(0, 2), 3);
            int children = x.children(0);
            Expect.same("the second does not", x.deliver(0, 0), 0);
            Expect.same("nor the third", x.deliver(0, 0), 0);
            Expect.same("nothing came of them", x.children(0), children);
        }
    }

    private static void anAnswerToAnOlderRequestIsPassedOver() {
        RekeyPeers x = asking(OPEN);
        x.wish(0, DELETE, 0);
        x.deliver(1, 0);
        x.twice(0, 0);
        x.deliver(0, 0);
        Expect.same("DELETE is out", x.told(0, 0), 3);
        Expect.same("the answer to OPEN", x.deliver(0, 0), 0);
        Expect.same("DELETE is out still", x.told(0, 0), 3);
        Expect.same("it has one child more, and no other", x.children(0), 3);
    }

    private static void anAnswerWithoutARequestIsPassedOver() {
        RekeyPeers x = asking(OPEN);
        x.deliver(1, 0);
        x.twice(0, 0);
        x.deliver(0, 0);
        String before = Bench.told(x, 0);
        Expect.same("none is out", x.told(0, 0), NONE);
        Expect.same("an answer", x.deliver(0, 0), 0);
        Expect.sameText("nothing came of it", Bench.told(x, 0), before);
        Expect.same("it is gone", x.flying(0), 0);
    }

    private static void nothingFliesAtFirst() {
        RekeyPeers x = new RekeyPeers();
        for (int peer = 0; peer < 2; peer++) {
            int to = peer;
            Expect.same("none", x.flying(peer), 0);
            Expect.throwsIndex("deliver", () -> x.deliver(to, 0));
            Expect.throwsIndex("lose", () -> x.lose(to, 0));
            Expect.throwsIndex("twice", () -> x.twice(to, 0));
            Expect.throwsIndex("packet", () -> x.packet(to, 0, 0));
        }
        x.wish(0, OPEN, 0);
        Expect.same("one", x.flying(1), 1);
        Expect.same("the only one is lost", x.lose(1, 0), 0);
        Expect.throwsIndex("there is none more", () -> x.lose(1, 0));
    }

    /** Number 0 is first, number 2 last, number 1 between. */
    private static RekeyPeers thirtyTo(int peer) {
        RekeyPeers x = Bench.ready();
        x.wish(1 - peer, OPEN, 0);
        x.twice(peer, 0);
        Bench.exchange(x, 1 - peer);
        x.wish(1 - peer, OPEN, 0);
        Bench.fill(x, peer, 29);
        x.deliver(peer, 28);
        x.deliver(1 - peer, 0);
        x.twice(peer, 1);
        x.wish(1 - peer, OPEN, 0);
        return x;
    }

    private static void theFirstAndTheLastOfThirty() {
        for (int peer = 0; peer < 2; peer++) {
            int to = peer;
            RekeyPeers x = thirtyTo(peer);
            Expect.same("thirty fly", x.flying(peer), 30);
            Expect.same("number 0 is first", x.packet(peer, 0, 1), 0);
            Expect.same("number 1 between", x.packet(peer, 28, 1), 1);
            Expect.same("number 2 is last", x.packet(peer, 29, 1), 2);
            Expect.throwsIndex("there is no packet 30", () -> x.packet(to, 30, 0));
            Expect.same("the last is answered", x.deliver(peer, 29), 1);
            Expect.throwsIndex("there is no packet 29", () -> x.deliver(to, 29));
            Expect.same("the first is passed over", x.deliver(peer, 0), 0);
            Expect.same("the next is the first", x.packet(peer, 0, 1), 1);
            RekeyPeers y = thirtyTo(peer);
            Expect.same("the last is lost", y.lose(peer, 29), 29);
            Expect.same("the one before is the last", y.packet(peer, 28, 1), 1);
            Expect.same("the first is doubled", y.twice(peer, 0), 30);
            Expect.same("behind the others", y.packet(peer, 29, 1), 0);
            Expect.same("the first is lost", y.lose(peer, 0), 29);
            Expect.same("the last is doubled", y.twice(peer, 28), 30);
            Expect.same("behind itself", y.packet(peer, 29, 1), 0);
        }
    }

    private static void theThirtiethDoubledFliesAndTheNextIsLost() {
        for (int peer = 0; peer < 2; peer++) {
            RekeyPeers x = Bench.ready();
            x.wish(1 - peer, OPEN, 0);
            Bench.fill(x, peer, 29);
            Expect.same("the thirtieth", x.twice(peer, 28), 30);
            Expect.same("one more", x.twice(peer, 29), 30);
            Expect.same("thirty fly", x.flying(peer), 30);
            Expect.same("one is lost", x.lose(peer, 0), 29);
            Expect.same("there is room again", x.twice(peer, 0), 30);
        }
    }

    /** So many answers, of number 0, fly to this peer, which has no request out. */
    private static RekeyPeers withAnswersTo(int peer, int many) {
        RekeyPeers x = Bench.ready();
        x.wish(peer, OPEN, 0);
        x.deliver(1 - peer, 0);
        x.twice(peer, 0);
        x.deliver(peer, 0);
        Bench.fill(x, peer, many);
        return x;
    }

    private static void theThirtiethRequestFliesAndTheNextIsLost() {
        for (int peer = 0; peer < 2; peer++) {
            RekeyPeers x = withAnswersTo(peer, 29);
            x.wish(1 - peer, OPEN, 0);
            Expect.same("the thirtieth", x.flying(peer), 30);
            Expect.same("is a request", x.packet(peer, 29, 0), 1);
            RekeyPeers y = withAnswersTo(peer, 30);
            Expect.same("a wish", y.wish(1 - peer, OPEN, 0), 1);
            Expect.same("thirty fly", y.flying(peer), 30);
            Expect.same("the last is an answer", y.packet(peer, 29, 0), 0);
            Expect.same("the request is out", y.told(1 - peer, 0), 0);
            Expect.same("and waits", y.told(1 - peer, 3), 4);
            y.lose(peer, 3);
            y.tick(4);
            Expect.same("it flies when it is sent again", y.packet(peer, 29, 0), 1);
        }
    }

    private static void theThirtiethSentAgainFliesAndTheNextIsLost() {
        for (int peer = 0; peer < 2; peer++) {
            RekeyPeers x = withAnswersTo(peer, 28);
            x.wish(1 - peer, OPEN, 0);
            x.tick(3);
            Expect.same("not yet", x.flying(peer), 29);
            Expect.same("sent", x.tick(1), 1);
            Expect.same("the thirtieth", x.flying(peer), 30);
            Expect.same("is a request", x.packet(peer, 29, 0), 1);
            x.tick(8);
            Expect.same("thirty fly", x.flying(peer), 30);
            Expect.same("it waits on", x.told(1 - peer, 3), 16);
        }
    }

    private static void theThirtiethAnswerFliesAndTheNextIsLost() {
        for (int peer = 0; peer < 2; peer++) {
            RekeyPeers x = withAnswersTo(peer, 29);
            x.wish(peer, OPEN, 0);
            Expect.same("answered", x.deliver(1 - peer, 0), 1);
            Expect.same("the thirtieth", x.flying(peer), 30);
            Expect.same("is this one", x.packet(peer, 29, 1), 1);
            RekeyPeers y = withAnswersTo(peer, 30);
            y.wish(peer, OPEN, 0);
            y.twice(1 - peer, 0);
            Expect.same("answered all the same", y.deliver(1 - peer, 0), 1);
            Expect.same("thirty fly", y.flying(peer), 30);
            Expect.same("the last is of number 0", y.packet(peer, 29, 1), 0);
            Expect.same("the child is there", y.children(1 - peer), 2);
            y.lose(peer, 0);
            Expect.same("answered again", y.deliver(1 - peer, 0), 2);
            Expect.same("now it flies", y.packet(peer, 29, 1), 1);
            Expect.same("and counts", y.deliver(peer, 29), 3);
            Expect.same("agreed", y.agreed(), 2);
        }
    }

    private static void theThirtiethAnswerAgainFliesAndTheNextIsLost() {
        for (int peer = 0; peer < 2; peer++) {
            RekeyPeers x = withAnswersTo(peer, 28);
            x.wish(peer, OPEN, 0);
            Bench.fill(x, 1 - peer, 3);
            x.deliver(1 - peer, 0);
            Expect.same("answered again", x.deliver(1 - peer, 0), 2);
            Expect.same("the thirtieth", x.flying(peer), 30);
            Expect.same("is this one", x.packet(peer, 29, 1), 1);
            Expect.same("answered again all the same", x.deliver(1 - peer, 0), 2);
            Expect.same("thirty fly", x.flying(peer), 30);
        }
    }

    private static void thirtyToOnePeerAreNoneToTheOther() {
        for (int peer = 0; peer < 2; peer++) {
            RekeyPeers x = withAnswersTo(peer, 30);
            x.wish(peer, OPEN, 0);
            Expect.same("one flies to the other", x.flying(1 - peer), 1);
            for (int many = 2; many <= 30; many++) {
                Expect.same("twice", x.twice(1 - peer, 0), many);
            }
            Expect.same("thirty", x.flying(1 - peer), 30);
            Expect.same("and thirty", x.flying(peer), 30);
        }
    }

    private static void aDeadPeerAnswersNothing() {
        for (int peer = 0; peer < 2; peer++) {
            RekeyPeers x = Bench.ready();
            x.wish(1 - peer, OPEN, 0);
            x.twice(peer, 0);
            Bench.exchange(x, 1 - peer);
            x.wish(1 - peer, DELETE, 0);
            x.wish(peer, OPEN, 0);
            x.tick(124);
            Bench.loseAll(x, 1 - peer);
            Expect.same("dead", x.told(peer, 5), 1);
            int flies = x.flying(peer);
            for (int i = 1; i <= flies; i++) {
                Expect.same("passed over", x.deliver(peer, 0), 0);
                Expect.same("one less", x.flying(peer), flies - i);
            }
            Expect.same("no answer", x.flying(1 - peer), 0);
            Expect.same("the child stays", x.children(peer), 1);
            Expect.same("the next one is the same", x.told(peer, 7), 1);
        }
    }

    private static void aDeadPeerTakesNoAnswer() {
        for (int kind = OPEN; kind <= DELETE; kind++) {
            RekeyPeers x = asking(kind);
            x.deliver(1, 0);
            x.tick(124);
            Expect.same("dead", x.told(0, 5), 1);
            Expect.same("the answer is passed over", x.deliver(0, 0), 0);
            Expect.same("the children stay as they are", x.children(0), 2);
            Expect.same("no wish comes of it", x.told(0, 4), 0);
            Expect.same("what it sent is answered again", x.deliver(1, 0), 2);
        }
    }

    private static void whatIsNotThereIsZero() {
        RekeyPeers x = Bench.agreeing(1);
        int nonce = Bench.nonceBehind(40);
        x.seed(0, 40);
        x.wish(0, OPEN, 0);
        Expect.sameText("OPEN is of no child", Bench.packet(x, 1, 0), "1 1 0 1 3 " + nonce + " 0");
        Bench.exchange(x, 0);
        x.seed(0, 40);
        x.wish(0, RENEW, 0);
        Expect.sameText("RENEW has all", Bench.packet(x, 1, 0), "1 2 1 1 5 " + nonce + " 1");
        x.deliver(1, 0);
        Expect.same("its answer is of none", x.packet(0, 0, 6), 0);
        x.deliver(0, 0);
        Expect.sameText("DELETE has no mark and no nonce", Bench.packet(x, 1, 0), "1 3 2 1 0 0 1");
        x.deliver(1, 0);
        Expect.sameText("its answer has nothing", Bench.packet(x, 0, 0), "0 3 2 1 0 0 0");
    }
}
