import java.util.ArrayList;
import java.util.List;

/**
 * The document written down a second time, apart from the class and in another form: children and
 * packets are rows of the numbers that child() and packet() tell, and each step stands beside the
 * words that ask for it. A call that is refused answers the exception's name.
 */
final class PlainPeers {
    private static final String INDEX = "IndexOutOfBoundsException";
    private static final String ARGUMENT = "IllegalArgumentException";
    private static final String STATE = "IllegalStateException";
    private static final String UNSUPPORTED = "UnsupportedOperationException";
    private static final int OPEN = 0;
    private static final int RENEW = 1;
    private static final int DELETE = 2;
    /** "it waits 4 ticks then", "twice as long as before", "the fifth time that is due": none. */
    private static final int[] WAITS = {4, 8, 16, 32, 64};

    private final List<List<Flying>> sky = new ArrayList<>();
    private final Side[] sides = new Side[2];

    PlainPeers() {
        allAsAtFirst();
    }

    /** row: whether a request, number, kind, no NO, mark, nonce, of; and what OPEN has besides. */
    private record Flying(int[] row, List<Integer> suites, int low, int high) {
    }

    private static final class Side {
        final List<Integer> suites = new ArrayList<>();
        int low = 0;
        int high = 1000;
        long before;
        int marksGiven;
        final List<int[]> children = new ArrayList<>();
        final List<int[]> wishes = new ArrayList<>();
        Flying out;
        int[] outIsOf;
        int sent;
        int waits;
        boolean dead;
        int requests;
        final List<Flying> answers = new ArrayList<>();
    }

    /** The answer as a text, or the name of the exception that is due. */
    String call(String name, int... a) {
        String refusal = refusal(name, a);
        if (refusal != null) {
            return refusal;
        }
        int answer = answer(name, a);
        take(0);
        take(1);
        return String.valueOf(answer);
    }

    private String refusal(String name, int[] a) {
        if (name.equals("tick")) {
            return a[0] < 0 || a[0] > 1000 ? ARGUMENT : null;
        }
        if (name.equals("agreed") || name.equals("clear")) {
            return null;
        }
        if (a[0] < 0 || a[0] > 1) {
            return INDEX;
        }
        Side side = sides[a[0]];
        int flies = sky.get(a[0]).size();
        switch (name) {
            case "suite":
                return a[1] < 1 || a[1] > 9 || side.suites.contains(a[1]) ? ARGUMENT
                        : side.suites.size() == 4 ? UNSUPPORTED : null;
            case "range":
                return a[1] < 0 || a[1] > 1000 || a[2] < 0 || a[2] > 1000 || a[2] < a[1] ? ARGUMENT : null;
            case "wish":
                return (a[1] == RENEW || a[1] == DELETE) && outside(a[2], side.children.size()) ? INDEX
                        : a[1] != OPEN && a[1] != RENEW && a[1] != DELETE ? ARGUMENT
                        : side.dead ? STATE
                        : side.wishes.size() >= 10 ? UNSUPPORTED : null;
            case "deliver":
            case "lose":
            case "twice":
                return outside(a[1], flies) ? INDEX : null;
            case "child":
                return outside(a[1], side.children.size()) ? INDEX : outside(a[2], 8) ? ARGUMENT : null;
            case "packet":
                return outside(a[1], flies) ? INDEX : outside(a[2], 7) ? ARGUMENT : null;
            case "told":
                return outside(a[1], 8) ? ARGUMENT : null;
            default:
                return null;
        }
    }

    private static boolean outside(int k, int many) {
        return k < 0 || k >= many;
    }

    private int answer(String name, int[] a) {
        switch (name) {
            case "suite":
                sides[a[0]].suites.add(a[1]);
                return sides[a[0]].suites.size();
            case "range":
                sides[a[0]].low = a[1];
                sides[a[0]].high = a[2];
                return a[2] - a[1] + 1;
            case "seed":
                sides[a[0]].before = Integer.toUnsignedLong(a[1]);
                return 0;
            case "wish":
                sides[a[0]].wishes.add(new int[] {a[1], a[1] == OPEN ? 0 : sides[a[0]].children.get(a[2])[0]});
                return sides[a[0]].wishes.size();
            case "deliver":
                return delivered(a[0], sky.get(a[0]).remove(a[1]));
            case "lose":
                sky.get(a[0]).remove(a[1]);
                return sky.get(a[0]).size();
            case "twice":
                fly(a[0], sky.get(a[0]).get(a[1]));
                return sky.get(a[0]).size();
            case "tick":
                return ticks(a[0]);
            case "children":
                return sides[a[0]].children.size();
            case "child":
                return sides[a[0]].children.get(a[1])[a[2]];
            case "flying":
                return sky.get(a[0]).size();
            case "packet":
                return sky.get(a[0]).get(a[1]).row[a[2]];
            case "told":
                return told(sides[a[0]])[a[1]];
            case "agreed":
                return agreed();
            default:
                allAsAtFirst();
                return 0;
        }
    }

    private void allAsAtFirst() {
        sky.clear();
        for (int peer = 0; peer < 2; peer++) {
            sky.add(new ArrayList<>());
            sides[peer] = new Side();
            sides[peer].before = peer;
        }
    }

    private static int[] told(Side side) {
        int[] row = {-1, -1, 0, 0, side.wishes.size(), side.dead ? 1 : 0, side.requests, side.answers.size()};
        if (side.out != null) {
            row[0] = side.out.row[1];
            row[1] = side.out.row[2];
            row[2] = side.sent;
            row[3] = side.waits;
        }
        return row;
    }

    private int agreed() {
        int many = 0;
        for (int[] a : sides[0].children) {
            boolean there = false;
            for (int[] b : sides[1].children) {
                there |= a[0] == b[1] && a[1] == b[0] && a[2] == b[2] && a[3] == b[3] && a[4] == b[4];
            }
            many += there ? 1 : 0;
        }
        return many;
    }

    /** "At most 30 packets fly to a peer; more are lost." */
    private void fly(int to, Flying packet) {
        sky.get(to).add(packet);
        if (sky.get(to).size() == 31) {
            sky.get(to).remove(30);
        }
    }

    private int mark(int peer) {
        return 2 * sides[peer].marksGiven++ + 1 + peer;
    }

    private int nonce(int peer) {
        sides[peer].before = (sides[peer].before * 1664525L + 1013904223L) % (1L << 32);
        return (int) (sides[peer].before / 65536);
    }

    private static int[] having(Side side, int fact, int value) {
        for (int[] child : side.children) {
            if (child[fact] == value) {
                return child;
            }
        }
        return null;
    }

    /** The first child that renews that one and was asked for here, or was not. */
    private static int[] renewing(Side side, int mark, int askedHere) {
        for (int[] child : side.children) {
            if (child[5] == mark && child[6] == askedHere) {
                return child;
            }
        }
        return null;
    }

    /** "With no request out, and not DEAD, it takes the first one, again and again". */
    private void take(int peer) {
        Side side = sides[peer];
        while (side.out == null && !side.dead && !side.wishes.isEmpty()) {
            int[] wish = side.wishes.remove(0);
            int[] of = wish[0] == OPEN ? null : having(side, 0, wish[1]);
            boolean nothing = wish[0] != OPEN && of == null
                    || wish[0] == RENEW && having(side, 5, wish[1]) != null;
            if (!nothing) {
                request(peer, wish[0], of);
            }
        }
    }

    private void request(int peer, int kind, int[] of) {
        Side side = sides[peer];
        int[] row = {1, side.requests++, kind, 1, 0, 0, of == null ? 0 : of[0]};
        if (kind != DELETE) {
            row[4] = mark(peer);
            row[5] = nonce(peer);
        }
        side.out = new Flying(row, List.copyOf(side.suites), side.low, side.high);
        side.outIsOf = of;
        side.sent = 1;
        side.waits = WAITS[0];
        fly(1 - peer, side.out);
    }

    private int ticks(int many) {
        int sent = 0;
        for (int i = 0; i < many; i++) {
            for (int peer = 0; peer < 2; peer++) {
                Side side = sides[peer];
                if (side.out != null && --side.waits == 0) {
                    if (side.sent == WAITS.length) {
                        side.dead = true;
                        side.out = null;
                    } else {
                        side.waits = WAITS[side.sent++];
                        fly(1 - peer, side.out);
                        sent++;
                    }
                }
            }
        }
        return sent;
    }

    private int delivered(int peer, Flying packet) {
        Side side = sides[peer];
        int number = packet.row[1];
        if (side.dead) {
            return 0;
        }
        if (packet.row[0] == 0) {
            if (side.out == null || side.out.row[1] != number) {
                return 0;
            }
            Flying request = side.out;
            side.out = null;
            if (packet.row[3] == 1) {
                count(peer, request.row, packet);
            }
            return 3;
        }
        int answered = side.answers.size();
        if (number == answered - 1) {
            fly(1 - peer, side.answers.get(number));
            return 2;
        }
        if (number != answered) {
            return 0;
        }
        side.answers.add(answerTo(peer, packet));
        fly(1 - peer, side.answers.get(number));
        return 1;
    }

    private Flying answerTo(int peer, Flying request) {
        Side side = sides[peer];
        int[] row = {0, request.row[1], request.row[2], 0, 0, 0, 0};
        int[] of = having(side, 1, request.row[6]);
        List<Integer> shared = new ArrayList<>(request.suites);
        shared.retainAll(side.suites);
        int low = Math.max(side.low, request.low);
        int high = Math.min(side.high, request.high);
        boolean room = side.children.size() < 16;
        if (row[2] == DELETE) {
            row[3] = 1;
            side.children.remove(of);
        } else if (row[2] == OPEN && room && !shared.isEmpty() && low <= high) {
            give(peer, row);
            side.children.add(new int[] {row[4], request.row[4], shared.get(0), low, high, 0, 0,
                    Math.min(row[5], request.row[5])});
        } else if (row[2] == RENEW && room && of != null && renewing(side, of[0], 1) == null) {
            give(peer, row);
            side.children.add(new int[] {row[4], request.row[4], of[2], of[3], of[4], of[0], 0,
                    Math.min(row[5], request.row[5])});
        }
        return new Flying(row, shared, low, high);
    }

    private void give(int peer, int[] row) {
        row[3] = 1;
        row[4] = mark(peer);
        row[5] = nonce(peer);
    }

    private void count(int peer, int[] request, Flying answer) {
        Side side = sides[peer];
        if (request[2] == DELETE) {
            side.children.remove(having(side, 0, request[6]));
            return;
        }
        int worth = Math.min(request[5], answer.row[5]);
        int[] child = request[2] == OPEN
                ? new int[] {request[4], answer.row[4], answer.suites.get(0), answer.low, answer.high, 0, 1, worth}
                : new int[] {request[4], answer.row[4], side.outIsOf[2], side.outIsOf[3], side.outIsOf[4],
                    request[6], 1, worth};
        if (side.children.size() < 16) {
            side.children.add(child);
        }
        if (request[2] == OPEN) {
            return;
        }
        int[] rival = renewing(side, request[6], 0);
        boolean thisIsTooMuch = rival != null && (worth < rival[7] || worth == rival[7] && peer == 0);
        side.wishes.add(new int[] {DELETE, thisIsTooMuch ? request[4] : request[6]});
    }
}
