/** Ways to bring two peers to where a test begins, and to read what they show. */
final class Bench {
    static final int CHILD_FACTS = 8;
    static final int PACKET_FACTS = 7;
    static final int PEER_FACTS = 8;

    private Bench() {
    }

    /** Both peers have suite 1 and the whole range. */
    static RekeyPeers ready() {
        RekeyPeers x = new RekeyPeers();
        x.suite(0, 1);
        x.suite(1, 1);
        return x;
    }

    /** Peers that agree on so many children, all asked for by peer 0. */
    static RekeyPeers agreeing(int many) {
        RekeyPeers x = ready();
        for (int i = 0; i < many; i++) {
            open(x, 0);
        }
        return x;
    }

    static void open(RekeyPeers x, int peer) {
        x.wish(peer, RekeyPeers.OPEN, 0);
        exchange(x, peer);
    }

    static void delete(RekeyPeers x, int peer, int k) {
        x.wish(peer, RekeyPeers.DELETE, k);
        exchange(x, peer);
    }

    /** The latest packet to the other one is delivered, and then the latest to this one. */
    static void exchange(RekeyPeers x, int peer) {
        x.deliver(1 - peer, x.flying(1 - peer) - 1);
        x.deliver(peer, x.flying(peer) - 1);
    }

    /** Delivers, the oldest first, till nothing flies. */
    static void settle(RekeyPeers x) {
        for (int i = 0; i < 1000; i++) {
            boolean toZero = x.flying(0) > 0;
            if (!toZero && x.flying(1) == 0) {
                return;
            }
            x.deliver(toZero ? 0 : 1, 0);
        }
    }

    static void killByTicks(RekeyPeers x, int peer) {
        x.wish(peer, RekeyPeers.OPEN, 0);
        x.tick(124);
        loseAll(x, 1 - peer);
    }

    /** Till so many packets fly to this peer: the last one is doubled. */
    static void fill(RekeyPeers x, int peer, int many) {
        for (int flies = x.flying(peer); flies < many; flies++) {
            x.twice(peer, flies - 1);
        }
    }

    static void loseAll(RekeyPeers x, int peer) {
        for (int flies = x.flying(peer); flies > 0; flies--) {
            x.lose(peer, 0);
        }
    }

    /** The nonce that comes behind this number, by arithmetic without sign. */
    static int nonceBehind(int seed) {
        long number = Integer.toUnsignedLong(seed) * 1664525L + 1013904223L;
        return (int) ((number & 0xffffffffL) >> 16);
    }

    /** A number behind which comes this nonce. */
    static int seedFor(int nonce) {
        int inverse = 1664525;
        for (int i = 0; i < 5; i++) {
            inverse *= 2 - 1664525 * inverse;
        }
        return ((nonce << 16) - 1013904223) * inverse;
    }

    static String child(RekeyPeers x, int peer, int k) {
        StringBuilder text = new StringBuilder();
        for (int what = 0; what < CHILD_FACTS; what++) {
            text.append(what == 0 ? "" : " ").append(x.child(peer, k, what));
        }
        return text.toString();
    }

    static String packet(RekeyPeers x, int peer, int k) {
        StringBuilder text = new StringBuilder();
        for (int what = 0; what < PACKET_FACTS; what++) {
            text.append(what == 0 ? "" : " ").append(x.packet(peer, k, what));
        }
        return text.toString();
    }

    static String told(RekeyPeers x, int peer) {
        StringBuilder text = new StringBuilder();
        for (int what = 0; what < PEER_FACTS; what++) {
            text.append(what == 0 ? "" : " ").append(x.told(peer, what));
        }
        return text.toString();
    }

    /** All that the calls show. */
    static String all(RekeyPeers x) {
        StringBuilder text = new StringBuilder();
        for (int peer = 0; peer < 2; peer++) {
            text.append("peer ").append(told(x, peer));
            int children = x.children(peer);
            for (int k = 0; k < children; k++) {
                text.append(", child ").append(child(x, peer, k));
            }
            int flies = x.flying(peer);
            for (int k = 0; k < flies; k++) {
                text.append(", packet ").append(packet(x, peer, k));
            }
            text.append("; ");
        }
        return text.append("agreed ").append(x.agreed()).toString();
    }

    /** What comes of a few calls more: it shows what no call tells, suites, ranges, marks, nonces. */
    static String future(RekeyPeers x) {
        loseAll(x, 0);
        loseAll(x, 1);
        x.tick(4);
        settle(x);
        for (int peer = 0; peer < 2; peer++) {
            if (x.told(peer, 5) == 0) {
                openWithRoom(x, peer);
            }
        }
        StringBuilder text = new StringBuilder(all(x));
        for (int peer = 0; peer < 2; peer++) {
            for (int suite = 1; suite <= 9; suite++) {
                text.append(' ').append(suiteOrRefusal(x, peer, suite));
            }
        }
        return text.toString();
    }

    private static void openWithRoom(RekeyPeers x, int peer) {
        if (x.children(peer) == 16) {
            x.wish(peer, RekeyPeers.DELETE, 0);
        }
        x.wish(peer, RekeyPeers.OPEN, 0);
        settle(x);
    }

    private static String suiteOrRefusal(RekeyPeers x, int peer, int suite) {
        try {
            return String.valueOf(x.suite(peer, suite));
        } catch (IllegalArgumentException there) {
            return "there";
        } catch (UnsupportedOperationException full) {
            return "full";
        }
    }
}
