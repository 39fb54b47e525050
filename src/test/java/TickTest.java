/** Promises 9 and 14: tick and told. */
final class TickTest {
    private static final int OPEN = RekeyPeers.OPEN;
    private static final int DELETE = RekeyPeers.DELETE;

    public static void main(String[] args) {
        theWaitDoubles();
        theFifthTimeKills();
        bothPeersTick();
        anAnswerEndsTheWait();
        aNewRequestWaitsFourAgain();
        wrongTicksAreRefused();
        toldTellsThePeer();
        wrongFactsAreRefused();
        aDeadPeerIsNoHindrance();
        Expect.end();
    }

    private static void theWaitDoubles() {
        RekeyPeers x = Bench.ready();
        x.wish(0, OPEN, 0);
        int[] waits = {4, 8, 16, 32};
        for (int i = 0; i < waits.length; i++) {
            Expect.same("sent", x.told(0, 2), i + 1);
            Expect.same("waits", x.told(0, 3), waits[i]);
            Expect.same("a tick too few", x.tick(waits[i] - 1), 0);
            Expect.same("one left", x.told(0, 3), 1);
            Expect.same("the last tick", x.tick(1), 1);
            Expect.same("flies again", x.flying(1), i + 2);
            Expect.sameText("the same one", Bench.packet(x, 1, i + 1), Bench.packet(x, 1, 0));
        }
        Expect.same("waits 64", x.told(0, 3), 64);
        Expect.same("five were sent", x.told(0, 2), 5);
    }

    private static void theFifthTimeKills() {
        RekeyPeers x = Bench.ready();
        x.wish(0, OPEN, 0);
        x.wish(0, OPEN, 0);
        Expect.same("four are sent again", x.tick(123), 4);
        Expect.sameText("not dead yet", Bench.told(x, 0), "0 0 5 1 1 0 1 0");
        Expect.same("none is sent", x.tick(1), 0);
        Expect.sameText("dead", Bench.told(x, 0), "-1 -1 0 0 1 1 1 0");
        Expect.same("never again", x.tick(1000), 0);
        Expect.same("five fly", x.flying(1), 5);
        Expect.same("the other one is not dead", x.told(1, 5), 0);
    }

    private static void bothPeersTick() {
        RekeyPeers x = Bench.ready();
        x.wish(0, OPEN, 0);
        x.tick(2);
        x.wish(1, OPEN, 0);
        Expect.same("one of 0", x.tick(2), 1);
        Expect.same("one of 1", x.tick(2), 1);
        Expect.same("waits of 0", x.told(0, 3), 6);
        Expect.same("waits of 1", x.told(1, 3), 8);
        Expect.same("all the others at once", x.tick(1000), 6);
        Expect.same("0 is dead", x.told(0, 5), 1);
        Expect.same("1 is dead", x.told(1, 5), 1);
    }

    private static void anAnswerEndsTheWait() {
        RekeyPeers x = Bench.agreeing(1);
        Expect.same("nothing waits", x.tick(1000), 0);
        Expect.same("nobody dies", x.told(0, 5) + x.told(1, 5), 0);
        x.wish(0, OPEN, 0);
        x.tick(3);
        Bench.exchange(x, 0);
        Expect.same("no more is sent", x.tick(1), 0);
        Expect.sameText("none is out", Bench.told(x, 0), "-1 -1 0 0 0 0 2 0");
    }

    private static void aNewRequestWaitsFourAgain() {
        RekeyPeers x = Bench.ready();
        x.wish(0, OPEN, 0);
        x.wish(0, OPEN, 0);
        x.tick(12);
        Bench.exchange(x, 0);
        Expect.sameText("the next one is new", Bench.told(x, 0), "1 0 1 4 0 0 2 0");
        Expect.same("four are sent again", x.tick(123), 4);
        Expect.same("lives", x.told(0, 5), 0);
    }

    private static void wrongTicksAreRefused() {
        RekeyPeers x = Bench.ready();
        x.wish(0, OPEN, 0);
        Expect.throwsArgument("-1", () -> x.tick(-1));
        Expect.throwsArgument("1001", () -> x.tick(1001));
        Expect.throwsArgument("the least int", () -> x.tick(Integer.MIN_VALUE));
        Expect.throwsArgument("the greatest int", () -> x.tick(Integer.MAX_VALUE));
        Expect.same("no tick passed", x.told(0, 3), 4);
        Expect.same("0 ticks", x.tick(0), 0);
        Expect.same("no tick passed", x.told(0, 3), 4);
        Expect.same("1000 ticks", x.tick(1000), 4);
    }

    private static void toldTellsThePeer() {
        RekeyPeers x = Bench.agreeing(2);
        Expect.sameText("of 0", Bench.told(x, 0), "-1 -1 0 0 0 0 2 0");
        Expect.sameText("of 1", Bench.told(x, 1), "-1 -1 0 0 0 0 0 2");
        x.wish(1, DELETE, 0);
        x.wish(1, DELETE, 1);
        x.tick(5);
        Expect.sameText("a request is out", Bench.told(x, 1), "0 2 2 7 1 0 1 2");
    }

    private static void wrongFactsAreRefused() {
        RekeyPeers x = Bench.ready();
        Expect.throwsIndex("peer 2", () -> x.told(2, 0));
        Expect.throwsIndex("peer -1, wrong fact too", () -> x.told(-1, 8));
        Expect.throwsArgument("fact 8", () -> x.told(0, 8));
        Expect.throwsArgument("fact -1", () -> x.told(1, -1));
    }

    private static void aDeadPeerIsNoHindrance() {
        RekeyPeers x = Bench.agreeing(1);
        Bench.killByTicks(x, 0);
        Expect.same("its child stays", x.children(0), 1);
        Expect.same("it may be set up", x.suite(0, 2), 2);
        x.wish(1, OPEN, 0);
        Expect.same("it passes requests over", x.deliver(0, 0), 0);
        Expect.same("and answers nothing", x.flying(1), 0);
        Expect.same("the other one sends again", x.tick(124), 4);
        Expect.same("and dies", x.told(1, 5), 1);
    }
}
