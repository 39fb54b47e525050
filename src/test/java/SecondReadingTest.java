import java.util.Arrays;
import java.util.Random;

/**
 * Runs of any calls, the same each time, on the class and on the document's second writing: both
 * must answer alike, and refuse alike.
 */
final class SecondReadingTest {
    private static final int RUNS = 4000;
    /** A step is a call and two that look, and an object is used for 512 calls. */
    private static final int STEPS = 170;

    private static final String[] NAMES = {
        "suite", "range", "seed", "wish", "deliver", "lose", "twice", "tick", "clear",
    };
    /** Of a hundred calls, how many are of each name: moods that come to full skies, sixteen children, rivals. */
    private static final int[][] MOODS = {
        {4, 3, 4, 30, 44, 4, 5, 5, 1},
        {1, 1, 1, 34, 63, 0, 0, 0, 0},
        {1, 1, 8, 40, 45, 1, 4, 0, 0},
        {1, 1, 2, 20, 30, 2, 30, 14, 0},
        {1, 1, 2, 30, 54, 5, 2, 5, 0},
    };
    /** Of a hundred wishes, how many are OPEN and RENEW. */
    private static final int[][] TASTES = {{40, 35}, {94, 3}, {20, 70}, {34, 33}, {60, 35}};

    private final Random random;
    private final RekeyPeers x = new RekeyPeers();
    private final PlainPeers plain = new PlainPeers();
    private final String run;
    private int mood;
    private int calls;
    private boolean same = true;

    private SecondReadingTest(int run) {
        random = new Random(run);
        this.run = "run " + run;
        mood = run % MOODS.length;
    }

    public static void main(String[] args) {
        for (int run = 0; run < RUNS; run++) {
            new SecondReadingTest(run).go(run);
        }
        Expect.end();
    }

    private void go(int run) {
        if (run % 9 != 0) {
            both("suite", 0, 1);
            both("suite", 1, 1);
        }
        for (int step = 0; step < STEPS && same && calls + 3 <= 512; step++) {
            if (step == 80) {
                mood = random.nextInt(MOODS.length);
            }
            change();
            look();
            look();
        }
    }

    private void both(String name, int... a) {
        calls++;
        String due = plain.call(name, a);
        String got = answer(name, a);
        same = same && got.equals(due);
        Expect.sameText(run + ", call " + calls + ", " + name + Arrays.toString(a), got, due);
    }

    private void change() {
        int dice = random.nextInt(100);
        int which = 0;
        while (which < NAMES.length - 1 && dice >= MOODS[mood][which]) {
            dice -= MOODS[mood][which];
            which++;
        }
        int peer = anyPeer();
        switch (NAMES[which]) {
            case "suite": both("suite", peer, random.nextInt(12) - 1); break;
            case "range": range(peer); break;
            case "seed": both("seed", peer, random.nextInt(3) == 0 ? random.nextInt(3) : random.nextInt()); break;
            case "wish": wish(peer); break;
            case "tick": both("tick", random.nextInt(25) == 0 ? random.nextInt(1400) - 200 : random.nextInt(9)); break;
            case "clear": both("clear"); break;
            default: both(NAMES[which], peer, anyOf(peer, "flying"));
        }
    }

    private void range(int peer) {
        if (random.nextInt(3) == 0) {
            both("range", peer, 0, 1000);
            return;
        }
        int low = random.nextInt(1010) - 5;
        both("range", peer, low, low + random.nextInt(700) - 3);
    }

    private void wish(int peer) {
        int dice = random.nextInt(100);
        int kind = dice < TASTES[mood][0] ? 0 : dice < TASTES[mood][0] + TASTES[mood][1] ? 1 : 2;
        both("wish", peer, random.nextInt(40) == 0 ? random.nextInt(7) - 2 : kind, anyOf(peer, "children"));
    }

    private void look() {
        int peer = anyPeer();
        switch (random.nextInt(6)) {
            case 0: both("told", peer, random.nextInt(20) == 0 ? random.nextInt(14) - 3 : random.nextInt(8)); break;
            case 1: both("child", peer, anyOf(peer, "children"), anyFact(8)); break;
            case 2: both("packet", peer, anyOf(peer, "flying"), anyFact(7)); break;
            case 3: both("children", peer); break;
            case 4: both("flying", peer); break;
            default: both("agreed");
        }
    }

    private int anyFact(int many) {
        return random.nextInt(20) == 0 ? random.nextInt(many + 4) - 2 : random.nextInt(many);
    }

    private int anyPeer() {
        return random.nextInt(60) == 0 ? random.nextInt(5) - 2 : random.nextInt(2);
    }

    /** Mostly one that is there; how many are is asked of the second writing, which has no limit of calls. */
    private int anyOf(int peer, String what) {
        int many = peer == 0 || peer == 1 ? Integer.parseInt(plain.call(what, peer)) : 0;
        if (many == 0 || random.nextInt(30) == 0) {
            return random.nextInt(many + 5) - 2;
        }
        int dice = random.nextInt(3);
        return dice == 0 ? 0 : dice == 1 ? many - 1 : random.nextInt(many);
    }

    private String answer(String name, int[] a) {
        try {
            switch (name) {
                case "suite": return "" + x.suite(a[0], a[1]);
                case "range": return "" + x.range(a[0], a[1], a[2]);
                case "seed":
                    x.seed(a[0], a[1]);
                    return "0";
                case "wish": return "" + x.wish(a[0], a[1], a[2]);
                case "deliver": return "" + x.deliver(a[0], a[1]);
                case "lose": return "" + x.lose(a[0], a[1]);
                case "twice": return "" + x.twice(a[0], a[1]);
                case "tick": return "" + x.tick(a[0]);
                case "children": return "" + x.children(a[0]);
                case "child": return "" + x.child(a[0], a[1], a[2]);
                case "flying": return "" + x.flying(a[0]);
                case "packet": return "" + x.packet(a[0], a[1], a[2]);
                case "told": return "" + x.told(a[0], a[1]);
                case "agreed": return "" + x.agreed();
                default:
                    x.clear();
                    return "0";
            }
        } catch (RuntimeException thrown) {
            return thrown.getClass().getSimpleName();
        }
    }
}
