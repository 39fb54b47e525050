/** Promises 10, 11 and 15: children, child, agreed; and what OPEN and DELETE come to. */
final class ChildTest {
    private static final int OPEN = RekeyPeers.OPEN;
    private static final int DELETE = RekeyPeers.DELETE;

    public static void main(String[] args) {
        childrenShowTheirFacts();
        wrongChildrenAreRefused();
        theWorthIsTheLesserNonce();
        deletingTakesTheChildFromBoth();
        bothMayDeleteTheSame();
        sixteenAreAnsweredNo();
        sixteenTakeNoMoreOfAnAnswer();
        onlyThoseThatBothHaveAreAgreed();
        Expect.end();
    }

    private static void childrenShowTheirFacts() {
        RekeyPeers x = new RekeyPeers();
        Expect.same("none at first", x.children(0), 0);
        x.suite(0, 6);
        x.suite(1, 6);
        x.range(0, 10, 500);
        x.range(1, 20, 700);
        x.wish(1, OPEN, 0);
        x.deliver(0, 0);
        Expect.same("the answering one has it", x.children(0), 1);
        Expect.same("the asking one not yet", x.children(1), 0);
        x.deliver(1, 0);
        int worth = Math.min(Bench.nonceBehind(0), Bench.nonceBehind(1));
        Expect.sameText("of 0", Bench.child(x, 0, 0), "1 2 6 20 500 0 0 " + worth);
        Expect.sameText("of 1", Bench.child(x, 1, 0), "2 1 6 20 500 0 1 " + worth);
    }

    private static void wrongChildrenAreRefused() {
        RekeyPeers x = Bench.agreeing(2);
        for (int peer : new int[] {-1, 2}) {
            Expect.throwsIndex("children of " + peer, () -> x.children(peer));
            Expect.throwsIndex("child of " + peer, () -> x.child(peer, 0, 0));
        }
        for (int k : new int[] {-1, 2, 16, Integer.MAX_VALUE}) {
            Expect.throwsIndex("child " + k, () -> x.child(0, k, 0));
            Expect.throwsIndex("child, wrong fact too, " + k, () -> x.child(0, k, 8));
        }
        Expect.throwsArgument("fact 8", () -> x.child(0, 1, 8));
        Expect.throwsArgument("fact -1", () -> x.child(1, 1, -1));
    }

    private static void theWorthIsTheLesserNonce() {
        int[][] pairs = {{10, 20}, {20, 10}, {0, 65535}, {65535, 0}, {40000, 50000}, {50000, 40000}, {7, 7}};
        for (int[] pair : pairs) {
            RekeyPeers x = Bench.ready();
            x.seed(0, Bench.seedFor(pair[0]));
            x.seed(1, Bench.seedFor(pair[1]));
            Bench.open(x, 0);
            Expect.same("worth at 0", x.child(0, 0, 7), Math.min(pair[0], pair[1]));
            Expect.same("worth at 1", x.child(1, 0, 7), Math.min(pair[0], pair[1]));
        }
    }

    private static void deletingTakesTheChildFromBoth() {
        RekeyPeers x = Bench.agreeing(3);
        x.wish(0, DELETE, 1);
        Expect.same("not before the answer", x.children(0), 3);
        x.deliver(1, 0);
        Expect.same("the answering one's goes", x.children(1), 2);
        Expect.same("the asking one's not yet", x.children(0), 3);
        Expect.same("agreed meanwhile", x.agreed(), 2);
        x.deliver(0, 0);
        Expect.same("now it goes", x.children(0), 2);
        Expect.same("first", x.child(0, 0, 0), 1);
        Expect.same("the third moves up", x.child(0, 1, 0), 5);
        Expect.same("first of 1", x.child(1, 0, 0), 2);
        Expect.same("the third of 1 moves up", x.child(1, 1, 0), 6);
        Expect.same("agreed", x.agreed(), 2);
    }

    private static void bothMayDeleteTheSame() {
        RekeyPeers x = Bench.agreeing(2);
        x.wish(0, DELETE, 0);
        x.wish(1, DELETE, 0);
        Expect.same("asked of 1", x.deliver(1, 0), 1);
        Expect.same("asked of 0", x.deliver(0, 0), 1);
        Expect.same("its own answer", x.deliver(0, 0), 3);
        Expect.same("the other's", x.deliver(1, 0), 3);
        Expect.same("one left", x.children(0), 1);
        Expect.same("one left at 1", x.children(1), 1);
        Expect.same("the second", x.child(0, 0, 0), 3);
        x.wish(0, DELETE, 0);
        Bench.delete(x, 1, 0);
        Expect.same("DELETE of what is gone is no NO", answerFact(x, 3), 1);
    }

    private static int answerFact(RekeyPeers x, int what) {
        x.deliver(1, 0);
        return x.packet(0, x.flying(0) - 1, what);
    }

    private static void sixteenAreAnsweredNo() {
        RekeyPeers x = Bench.agreeing(15);
        Bench.open(x, 1);
        Expect.same("sixteen agreed", x.agreed(), 16);
        x.wish(0, OPEN, 0);
        x.deliver(1, 0);
        Expect.same("NO", x.packet(0, 0, 3), 0);
        x.deliver(0, 0);
        Expect.same("sixteen", x.children(0), 16);
        Expect.same("sixteen of 1", x.children(1), 16);
        Bench.delete(x, 0, 3);
        Bench.open(x, 0);
        Expect.same("there is room again", x.agreed(), 16);
    }

    private static void sixteenTakeNoMoreOfAnAnswer() {
        RekeyPeers x = Bench.agreeing(15);
        x.wish(0, OPEN, 0);
        x.wish(1, OPEN, 0);
        x.deliver(1, 0);
        x.deliver(0, 0);
        Expect.same("a sixteenth by the other's", x.children(0), 16);
        Expect.same("it counts", x.deliver(0, 0), 3);
        Expect.same("but there is no child", x.children(0), 16);
        Expect.same("it counts at 1", x.deliver(1, 0), 3);
        Expect.same("but there is no child at 1", x.children(1), 16);
        Expect.same("agreed", x.agreed(), 15);
        Expect.same("nothing follows", x.flying(0) + x.flying(1), 0);
    }

    private static void onlyThoseThatBothHaveAreAgreed() {
        RekeyPeers x = Bench.ready();
        Expect.same("none", x.agreed(), 0);
        x.wish(0, OPEN, 0);
        x.deliver(1, 0);
        Expect.same("one has it", x.agreed(), 0);
        x.deliver(0, 0);
        Expect.same("both have it", x.agreed(), 1);
        Bench.open(x, 1);
        Expect.same("whoever asked", x.agreed(), 2);
    }
}
