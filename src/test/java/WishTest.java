/** Promise 5, and how wishes are taken. */
final class WishTest {
    private static final int OPEN = RekeyPeers.OPEN;
    private static final int RENEW = RekeyPeers.RENEW;
    private static final int DELETE = RekeyPeers.DELETE;

    public static void main(String[] args) {
        wishesAreCounted();
        eachKindMakesItsRequest();
        wrongWishesAreRefused();
        tenWait();
        theFirstExceptionCounts();
        wishesOfNoUseArePassedOver();
        marksAreOddAndEven();
        anAnswersDeleteComesToTenAll();
        bothPeersTakeWishes();
        Expect.end();
    }

    private static void wishesAreCounted() {
        RekeyPeers x = Bench.ready();
        Expect.same("the first waits till it is taken", x.wish(0, OPEN, 0), 1);
        Expect.same("it is taken", x.told(0, 4), 0);
        Expect.same("the second waits", x.wish(0, OPEN, 0), 1);
        Expect.same("the third", x.wish(0, OPEN, 0), 2);
        Expect.same("they wait", x.told(0, 4), 2);
        Expect.same("the other's", x.wish(1, OPEN, 0), 1);
        Expect.same("one request of 0", x.flying(1), 1);
        Expect.same("one request of 1", x.flying(0), 1);
        Expect.same("OPEN looks at no child", x.wish(0, OPEN, 99), 3);
        Expect.same("nor at one below 0", x.wish(0, OPEN, -5), 4);
    }

    private static void eachKindMakesItsRequest() {
        RekeyPeers x = Bench.agreeing(2);
        x.seed(0, 50);
        x.wish(0, OPEN, 0);
        Expect.sameText("OPEN", Bench.packet(x, 1, 0), "1 2 0 1 5 " + Bench.nonceBehind(50) + " 0");
        Bench.exchange(x, 0);
        x.seed(1, 60);
        x.wish(1, RENEW, 1);
        Expect.sameText("RENEW", Bench.packet(x, 0, 0), "1 0 1 1 8 " + Bench.nonceBehind(60) + " 4");
        x.lose(0, 0);
        x.wish(0, DELETE, 1);
        Expect.sameText("DELETE", Bench.packet(x, 1, 0), "1 3 2 1 0 0 3");
        Expect.sameText("told of it", Bench.told(x, 0), "3 2 1 4 0 0 4 0");
    }

    private static void wrongWishesAreRefused() {
        RekeyPeers x = Bench.agreeing(1);
        String before = Bench.all(x);
        Expect.throwsIndex("peer 2", () -> x.wish(2, OPEN, 0));
        Expect.throwsIndex("peer -1", () -> x.wish(-1, OPEN, 0));
        Expect.throwsIndex("RENEW of child 1", () -> x.wish(0, RENEW, 1));
        Expect.throwsIndex("DELETE of child 1", () -> x.wish(1, DELETE, 1));
        Expect.throwsIndex("RENEW of child -1", () -> x.wish(0, RENEW, -1));
        Expect.throwsIndex("DELETE of child -1", () -> x.wish(0, DELETE, -1));
        Expect.throwsArgument("kind 3", () -> x.wish(0, 3, 0));
        Expect.throwsArgument("kind -1", () -> x.wish(0, -1, 0));
        Expect.throwsArgument("kind 3, no such child", () -> x.wish(0, 3, 9));
        Expect.sameText("nothing came of them", Bench.all(x), before);
        Bench.killByTicks(x, 0);
        Expect.throwsState("OPEN of a dead peer", () -> x.wish(0, OPEN, 0));
        Expect.throwsState("RENEW of a dead peer", () -> x.wish(0, RENEW, 0));
        Expect.same("the other one may", x.wish(1, RENEW, 0), 1);
    }

    private static void tenWait() {
        RekeyPeers x = Bench.ready();
        x.wish(0, OPEN, 0);
        for (int i = 1; i <= 10; i++) {
            Expect.same("wish " + i, x.wish(0, OPEN, 0), i);
        }
        Expect.throwsUnsupported("an eleventh", () -> x.wish(0, OPEN, 0));
        Expect.same("ten wait", x.told(0, 4), 10);
        Bench.exchange(x, 0);
        Expect.same("nine wait", x.told(0, 4), 9);
        Expect.same("a tenth again", x.wish(0, OPEN, 0), 10);
    }

    private static void theFirstExceptionCounts() {
        RekeyPeers x = Bench.agreeing(1);
        x.wish(0, OPEN, 0);
        for (int i = 0; i < 10; i++) {
            x.wish(0, OPEN, 0);
        }
        Expect.throwsIndex("no such child, with ten", () -> x.wish(0, RENEW, 1));
        Expect.throwsArgument("no such kind, with ten", () -> x.wish(0, 7, 1));
        x.tick(124);
        Expect.same("dead", x.told(0, 5), 1);
        Expect.same("its wishes stay", x.told(0, 4), 10);
        Expect.throwsIndex("no such child of a dead one", () -> x.wish(0, DELETE, 1));
        Expect.throwsArgument("no such kind of a dead one", () -> x.wish(0, 3, 0));
        Expect.throwsState("a dead one with ten", () -> x.wish(0, OPEN, 0));
    }

    private static void wishesOfNoUseArePassedOver() {
        RekeyPeers x = Bench.agreeing(2);
        x.wish(0, DELETE, 0);
        x.wish(0, DELETE, 0);
        x.wish(0, RENEW, 0);
        x.wish(0, RENEW, 1);
        x.wish(0, RENEW, 1);
        x.wish(0, OPEN, 0);
        Bench.exchange(x, 0);
        Expect.sameText("the gone one's wishes are passed over", Bench.told(x, 0), "3 1 1 4 2 0 4 0");
        Expect.same("RENEW of the other", x.packet(1, 0, 6), 3);
        Expect.same("no mark was given by them", x.packet(1, 0, 4), 5);
        Bench.exchange(x, 0);
        Expect.sameText("RENEW of a renewed one is passed over", Bench.told(x, 0), "4 0 1 4 1 0 5 0");
        Expect.same("no mark was given by it", x.packet(1, 0, 4), 7);
        RekeyPeers y = Bench.agreeing(1);
        y.wish(0, RENEW, 0);
        y.deliver(1, 0);
        Expect.same("a wish", y.wish(1, RENEW, 0), 1);
        Expect.sameText("passed over if the other one asked", Bench.told(y, 1), "-1 -1 0 0 0 0 0 2");
        Expect.same("what renews it may be renewed itself", y.wish(1, RENEW, 1), 1);
        Expect.same("and is", y.told(1, 1), RENEW);
    }

    private static void marksAreOddAndEven() {
        RekeyPeers x = Bench.ready();
        for (int i = 0; i < 3; i++) {
            Bench.open(x, 0);
            Bench.open(x, 1);
        }
        for (int k = 0; k < 6; k++) {
            Expect.same("mark of 0", x.child(0, k, 0), 2 * k + 1);
            Expect.same("mark of 1", x.child(1, k, 0), 2 * k + 2);
        }
        Expect.same("agreed", x.agreed(), 6);
    }

    private static void anAnswersDeleteComesToTenAll() {
        RekeyPeers x = Bench.agreeing(2);
        x.wish(0, RENEW, 0);
        x.deliver(1, 0);
        x.wish(0, DELETE, 1);
        x.wish(0, RENEW, 0);
        for (int i = 0; i < 8; i++) {
            x.wish(0, OPEN, 0);
        }
        x.deliver(0, 0);
        Expect.sameText("one was taken, one came", Bench.told(x, 0), "3 2 1 4 10 0 4 0");
        Expect.throwsUnsupported("another", () -> x.wish(0, OPEN, 0));
        for (int i = 0; i < 9; i++) {
            Bench.exchange(x, 0);
        }
        Expect.sameText("the DELETE comes behind the others", Bench.told(x, 0), "12 2 1 4 0 0 13 0");
        Expect.same("of what was renewed", x.packet(1, 0, 6), 1);
    }

    private static void bothPeersTakeWishes() {
        RekeyPeers x = Bench.ready();
        x.wish(0, OPEN, 0);
        x.wish(0, OPEN, 0);
        x.wish(1, OPEN, 0);
        x.wish(1, OPEN, 0);
        x.deliver(1, 0);
        x.deliver(0, 0);
        x.deliver(1, 0);
        x.deliver(0, 0);
        Expect.sameText("second request of 0", Bench.told(x, 0), "1 0 1 4 0 0 2 1");
        Expect.sameText("second request of 1", Bench.told(x, 1), "1 0 1 4 0 0 2 1");
    }
}
