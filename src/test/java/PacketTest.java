/** Promises 6, 7, 8, 12 and 13: deliver, lose, twice, flying, packet. */
final class PacketTest {
    private static final int OPEN = RekeyPeers.OPEN;
    private static final int RENEW = RekeyPeers.RENEW;
    private static final int DELETE = RekeyPeers.DELETE;

    public static void main(String[] args) {
        deliverTellsWhatCameOfIt();
        packetsComeInAnyOrder();
        anAnswerFliesAgainAsItWas();
        aDeadPeerPassesOver();
        answersShowTheirFacts();
        wrongPacketsAreRefused();
        losingTakesOneAway();
        doublingPutsOneBehind();
        thirtyFlyAtMost();
        Expect.end();
    }

    private static void deliverTellsWhatCameOfIt() {
        RekeyPeers x = Bench.ready();
        x.wish(0, OPEN, 0);
        x.twice(1, 0);
        x.twice(1, 0);
        Expect.same("answered", x.deliver(1, 0), 1);
        Expect.same("answered again", x.deliver(1, 0), 2);
        Expect.same("one child comes of both", x.children(1), 1);
        Expect.same("two answers fly", x.flying(0), 2);
        Expect.same("counted", x.deliver(0, 0), 3);
        Expect.same("passed over", x.deliver(0, 0), 0);
        Expect.same("one child comes of both answers", x.children(0), 1);
        Bench.open(x, 0);
        Expect.same("a request from before the latest", x.deliver(1, 0), 0);
        Expect.same("no answer to it", x.flying(0), 0);
        Expect.same("no child of it", x.children(1), 2);
        RekeyPeers y = new RekeyPeers();
        y.wish(1, OPEN, 0);
        Expect.same("a NO is an answer", y.deliver(0, 0), 1);
        Expect.same("a NO counts", y.deliver(1, 0), 3);
    }

    private static void packetsComeInAnyOrder() {
        RekeyPeers x = Bench.ready();
        x.wish(0, OPEN, 0);
        x.twice(1, 0);
        x.deliver(1, 0);
        x.twice(0, 0);
        x.deliver(0, 0);
        x.wish(0, OPEN, 0);
        Expect.same("the later request first", x.deliver(1, 1), 1);
        Expect.same("the old one is passed over", x.deliver(1, 0), 0);
        Expect.same("the old answer does not count", x.deliver(0, 0), 0);
        Expect.same("the new one does", x.deliver(0, 0), 3);
        Expect.same("agreed", x.agreed(), 2);
    }

    private static void anAnswerFliesAgainAsItWas() {
        RekeyPeers x = Bench.ready();
        x.wish(0, OPEN, 0);
        x.twice(1, 0);
        x.deliver(1, 0);
        String answer = Bench.packet(x, 0, 0);
        x.range(1, 4, 5);
        x.seed(1, 77);
        x.lose(0, 0);
        Expect.same("answered again", x.deliver(1, 0), 2);
        Expect.sameText("the same answer", Bench.packet(x, 0, 0), answer);
        Expect.same("it counts", x.deliver(0, 0), 3);
        Expect.same("as it was", x.child(0, 0, 4), 1000);
        Expect.same("the number of requests that were answered", x.told(1, 7), 1);
    }

    private static void aDeadPeerPassesOver() {
        RekeyPeers x = Bench.agreeing(1);
        x.wish(0, OPEN, 0);
        x.deliver(1, 0);
        x.tick(123);
        x.wish(1, DELETE, 0);
        x.tick(1);
        Expect.same("0 is dead", x.told(0, 5), 1);
        Expect.same("an answer and a request fly to it", x.flying(0), 2);
        int flies = x.flying(1);
        Expect.same("the answer is passed over", x.deliver(0, 0), 0);
        Expect.same("and is gone", x.flying(0), 1);
        Expect.same("the request is passed over", x.deliver(0, 0), 0);
        Expect.same("and is gone, too", x.flying(0), 0);
        Expect.same("nothing is answered", x.flying(1), flies);
        Expect.same("its child stays, and none comes", x.children(0), 1);
        Expect.same("no request counts as answered", x.told(0, 7), 0);
    }

    private static void answersShowTheirFacts() {
        RekeyPeers x = Bench.ready();
        x.seed(1, 5);
        x.wish(0, OPEN, 0);
        x.deliver(1, 0);
        Expect.sameText("to OPEN", Bench.packet(x, 0, 0), "0 0 0 1 2 " + Bench.nonceBehind(5) + " 0");
        x.deliver(0, 0);
        x.seed(1, 6);
        x.wish(0, RENEW, 0);
        x.deliver(1, 0);
        Expect.sameText("to RENEW", Bench.packet(x, 0, 0), "0 1 1 1 4 " + Bench.nonceBehind(6) + " 0");
        x.deliver(0, 0);
        x.deliver(1, 0);
        Expect.sameText("to DELETE", Bench.packet(x, 0, 0), "0 2 2 1 0 0 0");
        x.deliver(0, 0);
        x.range(1, 0, 0);
        x.range(0, 1, 1);
        x.wish(0, OPEN, 0);
        x.deliver(1, 0);
        Expect.sameText("NO", Bench.packet(x, 0, 0), "0 3 0 0 0 0 0");
        x.deliver(0, 0);
        x.range(1, 1, 1);
        x.wish(0, OPEN, 0);
        x.deliver(1, 0);
        int third = Bench.nonceBehind(6 * 1664525 + 1013904223);
        Expect.sameText("a NO gave no mark and took no nonce", Bench.packet(x, 0, 0), "0 4 0 1 6 " + third + " 0");
    }

    private static void wrongPacketsAreRefused() {
        RekeyPeers x = Bench.ready();
        x.wish(0, OPEN, 0);
        String before = Bench.all(x);
        for (int k : new int[] {-1, 1, 30, Integer.MAX_VALUE, Integer.MIN_VALUE}) {
            Expect.throwsIndex("deliver " + k, () -> x.deliver(1, k));
            Expect.throwsIndex("lose " + k, () -> x.lose(1, k));
            Expect.throwsIndex("twice " + k, () -> x.twice(1, k));
            Expect.throwsIndex("packet " + k, () -> x.packet(1, k, 0));
            Expect.throwsIndex("packet, wrong fact too, " + k, () -> x.packet(1, k, 7));
        }
        for (int peer : new int[] {-1, 2}) {
            Expect.throwsIndex("deliver to " + peer, () -> x.deliver(peer, 0));
            Expect.throwsIndex("lose to " + peer, () -> x.lose(peer, 0));
            Expect.throwsIndex("twice to " + peer, () -> x.twice(peer, 0));
            Expect.throwsIndex("packet to " + peer, () -> x.packet(peer, 0, 0));
            Expect.throwsIndex("flying to " + peer, () -> x.flying(peer));
        }
        Expect.throwsArgument("fact 7", () -> x.packet(1, 0, 7));
        Expect.throwsArgument("fact -1", () -> x.packet(1, 0, -1));
        Expect.throwsIndex("nothing flies to 0", () -> x.deliver(0, 0));
        Expect.sameText("nothing came of them", Bench.all(x), before);
    }

    private static void losingTakesOneAway() {
        RekeyPeers x = Bench.ready();
        x.wish(0, OPEN, 0);
        x.twice(1, 0);
        Bench.exchange(x, 0);
        x.wish(0, OPEN, 0);
        x.twice(1, 1);
        Expect.same("three fly", x.flying(1), 3);
        Expect.same("the second is lost", x.lose(1, 1), 2);
        Expect.same("the first stays", x.packet(1, 0, 1), 0);
        Expect.same("the last moves up", x.packet(1, 1, 1), 1);
        Expect.same("the first is lost", x.lose(1, 0), 1);
        Expect.same("the last is lost", x.lose(1, 0), 0);
        Expect.same("it is still out", x.told(0, 0), 1);
        Expect.same("and nothing came to the other", x.children(1), 1);
    }

    private static void doublingPutsOneBehind() {
        RekeyPeers x = Bench.ready();
        x.wish(0, OPEN, 0);
        x.twice(1, 0);
        Bench.exchange(x, 0);
        x.wish(0, OPEN, 0);
        Expect.same("twice", x.twice(1, 0), 3);
        Expect.sameText("behind the others", Bench.packet(x, 1, 2), Bench.packet(x, 1, 0));
        Expect.same("another between", x.packet(1, 1, 1), 1);
        Expect.same("the request was not sent again", x.told(0, 2), 1);
    }

    private static void thirtyFlyAtMost() {
        RekeyPeers x = Bench.ready();
        x.wish(0, OPEN, 0);
        for (int i = 2; i <= 30; i++) {
            Expect.same("twice to " + i, x.twice(1, 0), i);
        }
        Expect.same("more are lost", x.twice(1, 0), 30);
        Expect.same("a request that is sent again is lost", x.tick(4), 1);
        Expect.same("it was sent", x.told(0, 2), 2);
        Expect.same("thirty fly", x.flying(1), 30);
        for (int i = 0; i < 30; i++) {
            x.deliver(1, 0);
        }
        Expect.same("thirty answers fly", x.flying(0), 30);
        x.wish(1, OPEN, 0);
        Expect.same("a first request is lost", x.flying(0), 30);
        Expect.same("but is out", x.told(1, 0), 0);
        x.deliver(0, 0);
        x.twice(0, 0);
        x.wish(0, OPEN, 0);
        Expect.same("a request is answered", x.deliver(1, 0), 1);
        Expect.same("its answer is lost", x.flying(0), 30);
        Expect.same("it had its child", x.children(1), 2);
        Expect.same("the last is the old one", x.packet(0, 29, 1), 0);
    }
}
