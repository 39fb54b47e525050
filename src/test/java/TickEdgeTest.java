/** The edges of promises 9 and 14: no tick, a thousand, each time that a request is due, the fifth. */
final class TickEdgeTest {
    private static final int OPEN = RekeyPeers.OPEN;
    private static final int RENEW = RekeyPeers.RENEW;
    private static final int DELETE = RekeyPeers.DELETE;
    /** The ticks behind which a request is due, from the first time on; the fifth time kills. */
    private static final int[] DUE = {4, 12, 28, 60, 124};

    public static void main(String[] args) {
        noTickChangesNothing();
        aThousandTicksAreTakenAndOneMoreIsRefused();
        withoutARequestNothingIsDue();
        eachTimeIsDueAtItsTickAndNotBefore();
        ticksOneByOneAreTicksAtOnce();
        everyKindIsSentAgainAndDies();
        anAnswerAtTheLastTickCounts();
        anAnswerBehindTheLastTickDoesNot();
        behindAnAnswerTheTimesAreCountedAnew();
        ofBothPeersEachHasItsOwnTimes();
        bothMayDieInTheSameTick();
        theDeadSendNothing();
        whatTheDeadSentIsAnswered();
        withoutARequestToldHasNone();
        everyFactOfARequestIsTold();
        Expect.end();
    }

    private static void noTickChangesNothing() {
        for (int ticks : new int[] {0, 1, 3, 4, 11, 123, 124}) {
            RekeyPeers x = Bench.agreeing(1);
            x.wish(0, RENEW, 0);
            x.wish(1, OPEN, 0);
            x.tick(ticks);
            String before = Bench.all(x);
            Expect.same("none is sent", x.tick(0), 0);
            Expect.sameText("all is as before", Bench.all(x), before);
        }
    }

    private static void aThousandTicksAreTakenAndOneMoreIsRefused() {
        RekeyPeers x = Bench.ready();
        x.wish(0, OPEN, 0);
        x.wish(1, OPEN, 0);
        Expect.throwsArgument("1001", () -> x.tick(1001));
        Expect.throwsArgument("-1", () -> x.tick(-1));
        Expect.same("no tick passed at 0", x.told(0, 3), 4);
        Expect.same("nor at 1", x.told(1, 3), 4);
        Expect.same("nothing was sent", x.flying(0) + x.flying(1), 2);
        Expect.same("1000", x.tick(1000), 8);
        Expect.same("both are dead", x.told(0, 5) + x.told(1, 5), 2);
        RekeyPeers y = Bench.ready();
        y.wish(0, OPEN, 0);
        Expect.same("999", y.tick(999), 4);
    }

    private static void withoutARequestNothingIsDue() {
        RekeyPeers x = Bench.agreeing(1);
        String before = Bench.all(x);
        Expect.same("none is sent", x.tick(1000), 0);
        Expect.sameText("all is as before", Bench.all(x), before);
        x.wish(0, OPEN, 0);
        Expect.same("the ticks before a request do not count", x.told(0, 3), 4);
    }

    private static void eachTimeIsDueAtItsTickAndNotBefore() {
        for (int peer = 0; peer < 2; peer++) {
            for (int time = 0; time < DUE.length; time++) {
                RekeyPeers x = Bench.ready();
                x.wish(peer, OPEN, 0);
                Expect.same("a tick before", x.tick(DUE[time] - 1), time);
                Expect.same("sent so often", x.told(peer, 2), time + 1);
                Expect.same("a tick is left", x.told(peer, 3), 1);
                Expect.same("alive", x.told(peer, 5), 0);
                boolean fifth = time == DUE.length - 1;
                Expect.same("at the tick", x.tick(1), fifth ? 0 : 1);
                Expect.same("sent once more", x.told(peer, 2), fifth ? 0 : time + 2);
                Expect.same("waits twice as long", x.told(peer, 3), fifth ? 0 : 8 << time);
                Expect.same("dead or not", x.told(peer, 5), fifth ? 1 : 0);
                Expect.same("so many fly", x.flying(1 - peer), fifth ? 5 : time + 2);
                RekeyPeers y = Bench.ready();
                y.wish(peer, OPEN, 0);
                Expect.same("all at once", y.tick(DUE[time]), Math.min(time + 1, 4));
            }
        }
    }

    private static void ticksOneByOneAreTicksAtOnce() {
        RekeyPeers x = Bench.ready();
        RekeyPeers y = Bench.ready();
        x.wish(0, OPEN, 0);
        y.wish(0, OPEN, 0);
        x.tick(2);
        y.tick(2);
        x.wish(1, OPEN, 0);
        y.wish(1, OPEN, 0);
        int sent = 0;
        for (int i = 0; i < 130; i++) {
            sent += x.tick(1);
        }
        Expect.same("so many", y.tick(130), sent);
        Expect.sameText("the same comes of them", Bench.all(x), Bench.all(y));
    }

    private static void everyKindIsSentAgainAndDies() {
        for (int kind = OPEN; kind <= DELETE; kind++) {
            for (int peer = 0; peer < 2; peer++) {
                RekeyPeers x = Bench.agreeing(1);
                x.wish(peer, kind, 0);
                String request = Bench.packet(x, 1 - peer, 0);
                Expect.same("four times", x.tick(123), 4);
                for (int k = 1; k < 5; k++) {
                    Expect.sameText("the same request", Bench.packet(x, 1 - peer, k), request);
                }
                Expect.same("alive", x.told(peer, 5), 0);
                x.tick(1);
                Expect.same("dead", x.told(peer, 5), 1);
                Expect.same("five fly", x.flying(1 - peer), 5);
                Expect.same("its child stays", x.children(peer), 1);
            }
        }
    }

    private static void anAnswerAtTheLastTickCounts() {
        RekeyPeers x = Bench.ready();
        x.wish(0, OPEN, 0);
        x.deliver(1, 0);
        x.tick(123);
        Expect.same("counts", x.deliver(0, 0), 3);
        Expect.same("the child is there", x.agreed(), 1);
        Expect.same("nothing is sent", x.tick(1000), 0);
        Expect.same("alive", x.told(0, 5), 0);
    }

    private static void anAnswerBehindTheLastTickDoesNot() {
        RekeyPeers x = Bench.ready();
        x.wish(0, OPEN, 0);
        x.deliver(1, 0);
        x.tick(124);
        Expect.same("passed over", x.deliver(0, 0), 0);
        Expect.same("no child", x.children(0), 0);
        Expect.same("dead", x.told(0, 5), 1);
    }

    private static void behindAnAnswerTheTimesAreCountedAnew() {
        RekeyPeers x = Bench.ready();
        for (int i = 0; i < 3; i++) {
            x.wish(0, OPEN, 0);
            Expect.same("sent once", x.told(0, 2), 1);
            Expect.same("waits four", x.told(0, 3), 4);
            Expect.same("four times more", x.tick(123), 4);
            Bench.exchange(x, 0);
            Expect.same("alive", x.told(0, 5), 0);
            Expect.same("none is out", x.told(0, 2), 0);
            Bench.loseAll(x, 1);
        }
        Expect.same("agreed", x.agreed(), 3);
    }

    private static void ofBothPeersEachHasItsOwnTimes() {
        RekeyPeers x = Bench.ready();
        x.wish(0, OPEN, 0);
        x.tick(3);
        x.wish(1, OPEN, 0);
        Expect.same("that of 0", x.tick(1), 1);
        Expect.same("flies to 1", x.flying(1), 2);
        Expect.same("not to 0", x.flying(0), 1);
        Expect.same("that of 1", x.tick(3), 1);
        Expect.same("flies to 0", x.flying(0), 2);
        Expect.same("the other times", x.tick(117), 6);
        Expect.same("0 is dead", x.told(0, 5), 1);
        Expect.same("1 has three ticks left", x.told(1, 3), 3);
        Expect.same("none is sent", x.tick(2), 0);
        Expect.same("1 is alive", x.told(1, 5), 0);
        x.tick(1);
        Expect.same("1 is dead", x.told(1, 5), 1);
    }

    private static void bothMayDieInTheSameTick() {
        RekeyPeers x = Bench.ready();
        x.wish(1, OPEN, 0);
        x.wish(0, OPEN, 0);
        Expect.same("four times each", x.tick(123), 8);
        Expect.same("both are alive", x.told(0, 5) + x.told(1, 5), 0);
        Expect.same("none is sent", x.tick(1), 0);
        Expect.same("both are dead", x.told(0, 5) + x.told(1, 5), 2);
    }

    private static void theDeadSendNothing() {
        for (int peer = 0; peer < 2; peer++) {
            RekeyPeers x = Bench.agreeing(1);
            x.wish(peer, OPEN, 0);
            x.wish(peer, DELETE, 0);
            x.tick(124);
            Bench.loseAll(x, 1 - peer);
            Expect.same("no tick sends", x.tick(1000), 0);
            x.wish(1 - peer, OPEN, 0);
            Expect.same("no call behind which wishes are taken", x.flying(1 - peer), 0);
            x.suite(peer, 5);
            x.deliver(peer, 0);
            Expect.same("no packet", x.flying(1 - peer), 0);
            Expect.sameText("no request", Bench.told(x, peer),
                    "-1 -1 0 0 1 1 " + (peer == 0 ? "2 0" : "1 1"));
        }
    }

    private static void whatTheDeadSentIsAnswered() {
        RekeyPeers x = Bench.ready();
        x.wish(0, OPEN, 0);
        x.tick(124);
        Expect.same("answered", x.deliver(1, 4), 1);
        Expect.same("answered again", x.deliver(1, 0), 2);
        Expect.same("the other one has its child", x.children(1), 1);
        Expect.same("the answer is passed over", x.deliver(0, 0), 0);
        Expect.same("no child of the dead one", x.children(0), 0);
        Expect.same("nothing is agreed", x.agreed(), 0);
    }

    private static void withoutARequestToldHasNone() {
        RekeyPeers x = new RekeyPeers();
        Expect.sameText("0 at first", Bench.told(x, 0), "-1 -1 0 0 0 0 0 0");
        Expect.sameText("1 at first", Bench.told(x, 1), "-1 -1 0 0 0 0 0 0");
        x.wish(1, OPEN, 0);
        x.tick(5);
        x.deliver(0, 0);
        Expect.sameText("the answering one has none", Bench.told(x, 0), "-1 -1 0 0 0 0 0 1");
        x.deliver(1, 0);
        Expect.sameText("behind a NO", Bench.told(x, 1), "-1 -1 0 0 0 0 1 0");
        x.wish(1, OPEN, 0);
        x.tick(124);
        Expect.sameText("dead", Bench.told(x, 1), "-1 -1 0 0 0 1 2 0");
    }

    private static void everyFactOfARequestIsTold() {
        for (int kind = OPEN; kind <= DELETE; kind++) {
            RekeyPeers x = Bench.agreeing(1);
            x.wish(0, kind, 0);
            x.wish(0, OPEN, 0);
            Expect.sameText("at first", Bench.told(x, 0), "1 " + kind + " 1 4 1 0 2 0");
            x.tick(4);
            Expect.sameText("sent again", Bench.told(x, 0), "1 " + kind + " 2 8 1 0 2 0");
            x.tick(7);
            Expect.sameText("a tick is left", Bench.told(x, 0), "1 " + kind + " 2 1 1 0 2 0");
        }
    }
}
