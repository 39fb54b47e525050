import java.util.List;
import java.util.function.Supplier;
import java.util.function.ToIntFunction;

/**
 * Every call that is refused, in every state at a limit: it throws just what the document says, and
 * changes nothing. A twin that did not get the call shows and answers the same.
 */
final class RefusalTest {
    private static final int OPEN = RekeyPeers.OPEN;
    private static final int RENEW = RekeyPeers.RENEW;
    private static final int DELETE = RekeyPeers.DELETE;
    private static final int LEAST = Integer.MIN_VALUE;
    private static final int GREATEST = Integer.MAX_VALUE;

    private static final Class<?> INDEX = IndexOutOfBoundsException.class;
    private static final Class<?> ARGUMENT = IllegalArgumentException.class;
    private static final Class<?> STATE = IllegalStateException.class;
    private static final Class<?> UNSUPPORTED = UnsupportedOperationException.class;

    private final String name;
    private final Supplier<RekeyPeers> state;
    /** Those that each peer has then. */
    private final int[][] suites;
    private final RekeyPeers sight;

    private RefusalTest(String name, Supplier<RekeyPeers> state, int[]... suites) {
        this.name = name;
        this.state = state;
        this.suites = suites;
        this.sight = state.get();
    }

    public static void main(String[] args) {
        int[] none = {};
        int[] one = {1};
        RefusalTest fourSuites = new RefusalTest("four suites", RefusalTest::withFourSuites,
                new int[] {1, 2, 3, 4}, new int[] {4, 5, 6, 7});
        RefusalTest tenWishes = new RefusalTest("ten wishes", RefusalTest::withTenWishes, one, one);
        RefusalTest dead = new RefusalTest("dead", RefusalTest::withADeadPeer, one, one);
        RefusalTest deadWithTen = new RefusalTest("dead with ten", RefusalTest::withADeadPeerOfTenWishes, one, one);
        List<RefusalTest> states = List.of(
                new RefusalTest("new", RekeyPeers::new, none, none),
                fourSuites, tenWishes, dead, deadWithTen,
                new RefusalTest("sixteen children", RefusalTest::withSixteenChildren, one, one),
                new RefusalTest("thirty packets to 0", () -> withThirtyPacketsTo(0), one, one),
                new RefusalTest("thirty packets to 1", () -> withThirtyPacketsTo(1), one, one),
                new RefusalTest("on their way", RefusalTest::withAnswersOnTheirWay, one, one));
        for (RefusalTest each : states) {
            each.peersThatAreNot();
            for (int peer = 0; peer < 2; peer++) {
                each.suitesThatAreNot(peer);
                each.suitesThatAreThere(peer);
                each.rangesThatAreNot(peer);
                each.kindsThatAreNot(peer);
                each.childrenThatAreNot(peer);
                each.packetsThatAreNot(peer);
                each.factsThatAreNot(peer);
            }
            each.ticksThatAreNot();
        }
        fourSuites.aFifthSuite(0, 5, 6, 7, 8, 9);
        fourSuites.aFifthSuite(1, 1, 2, 3, 8, 9);
        tenWishes.anEleventhWish(0);
        tenWishes.anEleventhWish(1);
        dead.wishesOfADeadPeer();
        deadWithTen.wishesOfADeadPeer();
        Expect.end();
    }

    private static RekeyPeers withFourSuites() {
        RekeyPeers x = new RekeyPeers();
        for (int suite = 1; suite <= 4; suite++) {
            x.suite(0, suite);
            x.suite(1, suite + 3);
        }
        x.range(0, 30, 700);
        x.range(1, 10, 600);
        x.seed(0, 1000);
        x.seed(1, -1000);
        return x;
    }

    private static RekeyPeers withTenWishes() {
        RekeyPeers x = Bench.agreeing(2);
        for (int peer = 0; peer < 2; peer++) {
            for (int i = 0; i < 10; i++) {
                x.wish(peer, OPEN, 0);
            }
            x.wish(peer, RENEW, 1);
        }
        return x;
    }

    private static RekeyPeers withADeadPeer() {
        RekeyPeers x = Bench.agreeing(1);
        Bench.killByTicks(x, 0);
        x.wish(1, OPEN, 0);
        return x;
    }

    private static RekeyPeers withADeadPeerOfTenWishes() {
        RekeyPeers x = Bench.agreeing(1);
        for (int i = 0; i < 11; i++) {
            x.wish(0, OPEN, 0);
        }
        x.tick(124);
        return x;
    }

    private static RekeyPeers withSixteenChildren() {
        return Bench.agreeing(16);
    }

    private static RekeyPeers withThirtyPacketsTo(int peer) {
        RekeyPeers x = Bench.agreeing(1);
        x.wish(0, RENEW, 0);
        x.wish(1, OPEN, 0);
        Bench.fill(x, peer, 30);
        return x;
    }

    private static RekeyPeers withAnswersOnTheirWay() {
        RekeyPeers x = Bench.agreeing(2);
        x.wish(0, RENEW, 0);
        x.wish(1, RENEW, 0);
        x.tick(3);
        x.deliver(0, 0);
        x.deliver(1, 0);
        x.wish(0, DELETE, 1);
        return x;
    }

    private void refused(String call, Class<?> due, ToIntFunction<RekeyPeers> how) {
        String what = name + ": " + call;
        RekeyPeers x = state.get();
        Expect.throwsJust(what, due, () -> how.applyAsInt(x));
        Expect.sameText(what + " changes nothing", Bench.all(x), Bench.all(state.get()));
        RekeyPeers y = state.get();
        Expect.throwsJust(what, due, () -> how.applyAsInt(y));
        Expect.sameText(what + " changes nothing to come", Bench.future(y), Bench.future(state.get()));
    }

    private void peersThatAreNot() {
        for (int peer : new int[] {-1, 2, LEAST, GREATEST}) {
            refused("suite of peer " + peer, INDEX, x -> x.suite(peer, 9));
            refused("wrong suite of peer " + peer, INDEX, x -> x.suite(peer, 10));
            refused("range of peer " + peer, INDEX, x -> x.range(peer, 1, 2));
            refused("wrong range of peer " + peer, INDEX, x -> x.range(peer, 2, 1));
            refused("seed of peer " + peer, INDEX, x -> seedAnswered(x, peer));
            for (int kind = OPEN - 1; kind <= DELETE + 1; kind++) {
                int wished = kind;
                refused("wish " + kind + " of peer " + peer, INDEX, x -> x.wish(peer, wished, 0));
            }
            refused("deliver to peer " + peer, INDEX, x -> x.deliver(peer, 0));
            refused("lose to peer " + peer, INDEX, x -> x.lose(peer, 0));
            refused("twice to peer " + peer, INDEX, x -> x.twice(peer, 0));
            refused("children of peer " + peer, INDEX, x -> x.children(peer));
            refused("child of peer " + peer, INDEX, x -> x.child(peer, 0, 0));
            refused("child of peer " + peer + ", wrong fact", INDEX, x -> x.child(peer, 0, 8));
            refused("flying to peer " + peer, INDEX, x -> x.flying(peer));
            refused("packet to peer " + peer, INDEX, x -> x.packet(peer, 0, 0));
            refused("packet to peer " + peer + ", wrong fact", INDEX, x -> x.packet(peer, 0, 7));
            refused("told of peer " + peer, INDEX, x -> x.told(peer, 0));
            refused("told of peer " + peer + ", wrong fact", INDEX, x -> x.told(peer, 8));
        }
    }

    private static int seedAnswered(RekeyPeers x, int peer) {
        x.seed(peer, 12345);
        return 0;
    }

    private void suitesThatAreNot(int peer) {
        for (int suite : new int[] {0, 10, -1, LEAST, GREATEST}) {
            refused("suite " + suite + " of " + peer, ARGUMENT, x -> x.suite(peer, suite));
        }
    }

    /** With four of them, too: the first exception that suite() names counts. */
    private void suitesThatAreThere(int peer) {
        for (int suite : suites[peer]) {
            refused("suite " + suite + " of " + peer + " again", ARGUMENT, x -> x.suite(peer, suite));
        }
    }

    private void rangesThatAreNot(int peer) {
        int[][] ranges = {{-1, 0}, {-1, 1000}, {0, 1001}, {1000, 1001}, {-1, 1001}, {-1, -1}, {1001, 1001},
            {1, 0}, {1000, 999}, {1000, 0}, {0, -1}, {1001, 1000}, {LEAST, GREATEST}, {GREATEST, LEAST}};
        for (int[] each : ranges) {
            refused("range " + each[0] + " to " + each[1] + " of " + peer, ARGUMENT,
                    x -> x.range(peer, each[0], each[1]));
        }
    }

    /** Dead or with ten wishes, too; and no child is looked at for them. */
    private void kindsThatAreNot(int peer) {
        for (int kind : new int[] {-1, 3, LEAST, GREATEST}) {
            refused("wish " + kind + " of " + peer, ARGUMENT, x -> x.wish(peer, kind, 0));
            refused("wish " + kind + " of " + peer + ", no child", ARGUMENT, x -> x.wish(peer, kind, 16));
        }
    }

    /** Dead or with ten wishes, too. */
    private void childrenThatAreNot(int peer) {
        for (int k : new int[] {-1, sight.children(peer), 16, LEAST, GREATEST}) {
            refused("RENEW of child " + k + " of " + peer, INDEX, x -> x.wish(peer, RENEW, k));
            refused("DELETE of child " + k + " of " + peer, INDEX, x -> x.wish(peer, DELETE, k));
            refused("child " + k + " of " + peer, INDEX, x -> x.child(peer, k, 0));
            refused("child " + k + " of " + peer + ", wrong fact", INDEX, x -> x.child(peer, k, -1));
        }
    }

    private void packetsThatAreNot(int peer) {
        for (int k : new int[] {-1, sight.flying(peer), 30, LEAST, GREATEST}) {
            refused("deliver " + k + " to " + peer, INDEX, x -> x.deliver(peer, k));
            refused("lose " + k + " to " + peer, INDEX, x -> x.lose(peer, k));
            refused("twice " + k + " to " + peer, INDEX, x -> x.twice(peer, k));
            refused("packet " + k + " to " + peer, INDEX, x -> x.packet(peer, k, 0));
            refused("packet " + k + " to " + peer + ", wrong fact", INDEX, x -> x.packet(peer, k, -1));
        }
    }

    private void factsThatAreNot(int peer) {
        for (int what : new int[] {-1, LEAST, GREATEST, 8}) {
            refused("told " + what + " of " + peer, ARGUMENT, x -> x.told(peer, what));
            if (sight.children(peer) > 0) {
                refused("fact " + what + " of a child of " + peer, ARGUMENT, x -> x.child(peer, 0, what));
            }
        }
        for (int what : new int[] {-1, LEAST, GREATEST, 7}) {
            if (sight.flying(peer) > 0) {
                refused("fact " + what + " of a packet to " + peer, ARGUMENT, x -> x.packet(peer, 0, what));
            }
        }
    }

    private void ticksThatAreNot() {
        for (int many : new int[] {-1, 1001, LEAST, GREATEST}) {
            refused("tick " + many, ARGUMENT, x -> x.tick(many));
        }
    }

    private void aFifthSuite(int peer, int... others) {
        for (int suite : others) {
            refused("suite " + suite + " of " + peer + " as a fifth", UNSUPPORTED, x -> x.suite(peer, suite));
        }
    }

    private void anEleventhWish(int peer) {
        refused("OPEN of " + peer, UNSUPPORTED, x -> x.wish(peer, OPEN, 0));
        refused("RENEW of " + peer, UNSUPPORTED, x -> x.wish(peer, RENEW, 0));
        refused("DELETE of " + peer, UNSUPPORTED, x -> x.wish(peer, DELETE, 1));
    }

    private void wishesOfADeadPeer() {
        refused("OPEN", STATE, x -> x.wish(0, OPEN, 0));
        refused("RENEW", STATE, x -> x.wish(0, RENEW, 0));
        refused("DELETE", STATE, x -> x.wish(0, DELETE, 0));
    }
}
