import java.util.ArrayList;
import java.util.Arrays;
import java.util.List;

/**
 * Two peers that agree on children, renew and delete them, by numbered requests of which each peer
 * has one out at a time. The packets between them fly until the caller delivers or loses them.
 */
public final class RekeyPeers {
    public static final int NONE = -1;
    public static final int OPEN = 0, RENEW = 1, DELETE = 2;

    private static final int LOWEST_SUITE = 1;
    private static final int HIGHEST_SUITE = 9;
    private static final int LOWEST = 0;
    private static final int HIGHEST = 1000;
    private static final int MOST_SUITES = 4;
    private static final int MOST_CHILDREN = 16;
    private static final int MOST_WISHES = 10;
    private static final int MOST_FLYING = 30;
    private static final int MOST_TICKS = 1000;
    private static final int MOST_SENDS = 5;
    private static final int FIRST_WAIT = 4;
    private static final int NO_MARK = 0;

    private static final int CHILD_FACTS = 8;
    private static final int PACKET_FACTS = 7;
    private static final int PEER_FACTS = 8;

    private static final int PASSED_OVER = 0;
    private static final int ANSWERED = 1;
    private static final int ANSWERED_AGAIN = 2;
    private static final int COUNTED = 3;

    private final Flight toZero = new Flight();
    private final Flight toOne = new Flight();
    private final Peer zero = new Peer(0, toOne);
    private final Peer one = new Peer(1, toZero);

    public RekeyPeers() {
    }

    public int suite(int peer, int suite)
            throws IndexOutOfBoundsException, IllegalArgumentException, UnsupportedOperationException {
        Peer its = peerAt(peer);
        if (suite < LOWEST_SUITE || suite > HIGHEST_SUITE || its.hasSuite(suite)) {
            throw new IllegalArgumentException();
        }
        if (its.suiteCount >= MOST_SUITES) {
            throw new UnsupportedOperationException();
        }
        its.addSuite(suite);
        return its.suiteCount;
    }

    public int range(int peer, int low, int high) throws IndexOutOfBoundsException, IllegalArgumentException {
        Peer its = peerAt(peer);
        if (low < LOWEST || high > HIGHEST || low > high) {
            throw new IllegalArgumentException();
        }
        its.low = low;
        its.high = high;
        return high - low + 1;
    }

    public void seed(int peer, int seed) throws IndexOutOfBoundsException {
        peerAt(peer).nonceSource = seed;
    }

    public int wish(int peer, int kind, int k)
            throws IndexOutOfBoundsException, IllegalArgumentException, IllegalStateException,
            UnsupportedOperationException {
        Peer its = peerAt(peer);
        int mark = kind == RENEW || kind == DELETE ? childAt(its, k).mark : NO_MARK;
        if (kind < OPEN || kind > DELETE) {
            throw new IllegalArgumentException();
        }
        if (its.dead) {
            throw new IllegalStateException();
        }
        if (its.wishes.size() >= MOST_WISHES) {
            throw new UnsupportedOperationException();
        }
        its.wishes.add(new Wish(kind, mark));
        int waiting = its.wishes.size();
        takeWishes();
        return waiting;
    }

    public int deliver(int peer, int k) throws IndexOutOfBoundsException {
        Peer its = peerAt(peer);
        Flight flight = flightTo(peer);
        Packet packet = packetAt(flight, k);
        flight.packets.remove(k);
        int outcome = its.receive(packet);
        takeWishes();
        return outcome;
    }

    public int lose(int peer, int k) throws IndexOutOfBoundsException {
        Flight flight = flightTo(peer);
        packetAt(flight, k);
        flight.packets.remove(k);
        return flight.packets.size();
    }

    public int twice(int peer, int k) throws IndexOutOfBoundsException {
        Flight flight = flightTo(peer);
        flight.launch(packetAt(flight, k));
        return flight.packets.size();
    }

    public int tick(int many) throws IllegalArgumentException {
        if (many < 0 || many > MOST_TICKS) {
            throw new IllegalArgumentException();
        }
        int sent = 0;
        for (int i = 0; i < many; i++) {
            sent += zero.waitOneTick();
            sent += one.waitOneTick();
        }
        return sent;
    }

    public int children(int peer) throws IndexOutOfBoundsException {
        return peerAt(peer).offspring.size();
    }

    public int child(int peer, int k, int what) throws IndexOutOfBoundsException, IllegalArgumentException {
        Child its = childAt(peerAt(peer), k);
        refuseOutside(what, CHILD_FACTS);
        return its.fact(what);
    }

    public int flying(int peer) throws IndexOutOfBoundsException {
        return flightTo(peer).packets.size();
    }

    public int packet(int peer, int k, int what) throws IndexOutOfBoundsException, IllegalArgumentException {
        Packet its = packetAt(flightTo(peer), k);
        refuseOutside(what, PACKET_FACTS);
        return its.fact(what);
    }

    public int told(int peer, int what) throws IndexOutOfBoundsException, IllegalArgumentException {
        Peer its = peerAt(peer);
        refuseOutside(what, PEER_FACTS);
        return its.fact(what);
    }

    public int agreed() {
        int many = 0;
        for (int i = 0; i < zero.offspring.size(); i++) {
            if (one.sharesChild(zero.offspring.get(i))) {
                many++;
            }
        }
        return many;
    }

    public void clear() {
        toZero.packets.clear();
        toOne.packets.clear();
        zero.startAfresh();
        one.startAfresh();
    }

    /**
     * Only wish() and deliver() need this behind them: no other call brings a wish, or ends a
     * request of a peer that is not dead.
     */
    private void takeWishes() {
        zero.takeWishesTillRequest();
        one.takeWishesTillRequest();
    }

    private Peer peerAt(int peer) {
        if (peer != 0 && peer != 1) {
            throw new IndexOutOfBoundsException();
        }
        return peer == 0 ? zero : one;
    }

    private Flight flightTo(int peer) {
        if (peer != 0 && peer != 1) {
            throw new IndexOutOfBoundsException();
        }
        return peer == 0 ? toZero : toOne;
    }

    private static Child childAt(Peer peer, int k) {
        if (k < 0 || k >= peer.offspring.size()) {
            throw new IndexOutOfBoundsException();
        }
        return peer.offspring.get(k);
    }

    private static Packet packetAt(Flight flight, int k) {
        if (k < 0 || k >= flight.packets.size()) {
            throw new IndexOutOfBoundsException();
        }
        return flight.packets.get(k);
    }

    private static void refuseOutside(int what, int facts) {
        if (what < 0 || what >= facts) {
            throw new IllegalArgumentException();
        }
    }

    /** The packets that fly to one peer. A packet never changes, so one object may fly twice. */
    private static final class Flight {
        final List<Packet> packets = new ArrayList<>();

        void launch(Packet packet) {
            if (packets.size() < MOST_FLYING) {
                packets.add(packet);
            }
        }
    }

    private abstract static class Packet {
        final int number;
        final int kind;
        final int mark;
        final int nonce;

        Packet(int number, int kind, int mark, int nonce) {
            this.number = number;
            this.kind = kind;
            this.mark = mark;
            this.nonce = nonce;
        }

        abstract boolean isRequest();

        abstract boolean isNo();

        abstract int subjectMark();

        int fact(int what) {
            switch (what) {
                case 0: return isRequest() ? 1 : 0;
                case 1: return number;
                case 2: return kind;
                case 3: return isNo() ? 0 : 1;
                case 4: return mark;
                case 5: return nonce;
                default: return subjectMark();
            }
        }
    }

    private static final class Request extends Packet {
        /** The asking peer's child that RENEW or DELETE is of; the other peer reads its mark alone. */
        final Child subject;
        /** What OPEN has; null for the other kinds. */
        final Offer offer;

        Request(int number, int kind, int mark, int nonce, Child subject, Offer offer) {
            super(number, kind, mark, nonce);
            this.subject = subject;
            this.offer = offer;
        }

        @Override
        boolean isRequest() {
            return true;
        }

        @Override
        boolean isNo() {
            return false;
        }

        @Override
        int subjectMark() {
            return subject == null ? NO_MARK : subject.mark;
        }
    }

    private static final class Answer extends Packet {
        final boolean no;
        /** What OPEN came to; null for the other kinds and for a NO. */
        final Deal deal;

        Answer(Request request, boolean no, int mark, int nonce, Deal deal) {
            super(request.number, request.kind, mark, nonce);
            this.no = no;
            this.deal = deal;
        }

        @Override
        boolean isRequest() {
            return false;
        }

        @Override
        boolean isNo() {
            return no;
        }

        @Override
        int subjectMark() {
            return NO_MARK;
        }
    }

    /** The suites and the range that a peer had when it sent OPEN. */
    private static final class Offer {
        final int[] suites;
        final int low;
        final int high;

        Offer(int[] suites, int low, int high) {
            this.suites = suites;
            this.low = low;
            this.high = high;
        }
    }

    /** The suite and the range that both peers settled on. */
    private static final class Deal {
        final int suite;
        final int low;
        final int high;

        Deal(int suite, int low, int high) {
            this.suite = suite;
            this.low = low;
            this.high = high;
        }

        boolean isLike(Deal other) {
            return suite == other.suite && low == other.low && high == other.high;
        }
    }

    private static final class Wish {
        final int kind;
        final int mark;

        Wish(int kind, int mark) {
            this.kind = kind;
            this.mark = mark;
        }
    }

    private static final class Child {
        final int mark;
        final int otherMark;
        final Deal deal;
        final int renews;
        final boolean askedHere;
        final int worth;

        Child(int mark, int otherMark, Deal deal, int renews, boolean askedHere, int worth) {
            this.mark = mark;
            this.otherMark = otherMark;
            this.deal = deal;
            this.renews = renews;
            this.askedHere = askedHere;
            this.worth = worth;
        }

        int fact(int what) {
            switch (what) {
                case 0: return mark;
                case 1: return otherMark;
                case 2: return deal.suite;
                case 3: return deal.low;
                case 4: return deal.high;
                case 5: return renews;
                case 6: return askedHere ? 1 : 0;
                default: return worth;
            }
        }
    }

    private static final class Peer {
        private final int id;
        private final Flight outgoing;
        private final int[] suites = new int[MOST_SUITES];
        int suiteCount;
        int low;
        int high;
        int nonceSource;
        private int nextMark;
        final List<Child> offspring = new ArrayList<>();
        final List<Wish> wishes = new ArrayList<>();
        /** The request that is out, or null; the three numbers below are of it. */
        private Request out;
        private int timesSent;
        private int wholeWait;
        private int ticksLeft;
        private int nextRequest;
        private int nextToAnswer;
        private Answer latestAnswer;
        boolean dead;

        Peer(int id, Flight outgoing) {
            this.id = id;
            this.outgoing = outgoing;
            startAfresh();
        }

        void startAfresh() {
            suiteCount = 0;
            low = LOWEST;
            high = HIGHEST;
            nonceSource = id;
            nextMark = id + 1;
            offspring.clear();
            wishes.clear();
            out = null;
            nextRequest = 0;
            nextToAnswer = 0;
            latestAnswer = null;
            dead = false;
        }

        int fact(int what) {
            switch (what) {
                case 0: return out == null ? NONE : out.number;
                case 1: return out == null ? NONE : out.kind;
                case 2: return out == null ? 0 : timesSent;
                case 3: return out == null ? 0 : ticksLeft;
                case 4: return wishes.size();
                case 5: return dead ? 1 : 0;
                case 6: return nextRequest;
                default: return nextToAnswer;
            }
        }

        boolean hasSuite(int suite) {
            for (int i = 0; i < suiteCount; i++) {
                if (suites[i] == suite) {
                    return true;
                }
            }
            return false;
        }

        void addSuite(int suite) {
            if (suiteCount < MOST_SUITES) {
                suites[suiteCount] = suite;
                suiteCount++;
            }
        }

        boolean sharesChild(Child theirs) {
            for (int i = 0; i < offspring.size(); i++) {
                Child ours = offspring.get(i);
                if (ours.mark == theirs.otherMark && ours.otherMark == theirs.mark
                        && ours.deal.isLike(theirs.deal)) {
                    return true;
                }
            }
            return false;
        }

        void takeWishesTillRequest() {
            for (int waiting = wishes.size(); waiting > 0 && out == null && !dead; waiting--) {
                Request request = requestFor(wishes.remove(0));
                if (request != null) {
                    sendFirst(request);
                }
            }
        }

        private Request requestFor(Wish wish) {
            if (wish.kind == OPEN) {
                Offer offer = new Offer(Arrays.copyOf(suites, suiteCount), low, high);
                return new Request(nextRequest, OPEN, newMark(), newNonce(), null, offer);
            }
            Child subject = childOfMark(wish.mark);
            if (subject == null) {
                return null;
            }
            if (wish.kind == DELETE) {
                return new Request(nextRequest, DELETE, NO_MARK, 0, subject, null);
            }
            if (renewalOf(subject.mark, true) != null || renewalOf(subject.mark, false) != null) {
                return null;
            }
            return new Request(nextRequest, RENEW, newMark(), newNonce(), subject, null);
        }

        private void sendFirst(Request request) {
            out = request;
            nextRequest++;
            timesSent = 1;
            wholeWait = FIRST_WAIT;
            ticksLeft = FIRST_WAIT;
            outgoing.launch(request);
        }

        /** Answers how many packets were sent; one that is lost for want of room was sent, too. */
        int waitOneTick() {
            if (out == null) {
                return 0;
            }
            ticksLeft--;
            if (ticksLeft > 0) {
                return 0;
            }
            if (timesSent >= MOST_SENDS) {
                out = null;
                dead = true;
                return 0;
            }
            timesSent++;
            wholeWait *= 2;
            ticksLeft = wholeWait;
            outgoing.launch(out);
            return 1;
        }

        int receive(Packet packet) {
            if (dead) {
                return PASSED_OVER;
            }
            if (packet instanceof Request request) {
                return receiveRequest(request);
            }
            if (packet instanceof Answer answer) {
                return receiveAnswer(answer);
            }
            return PASSED_OVER;
        }

        private int receiveRequest(Request request) {
            if (latestAnswer != null && request.number == latestAnswer.number) {
                outgoing.launch(latestAnswer);
                return ANSWERED_AGAIN;
            }
            if (request.number != nextToAnswer) {
                return PASSED_OVER;
            }
            nextToAnswer++;
            if (request.kind == OPEN) {
                latestAnswer = answerToOpen(request);
            } else if (request.kind == RENEW) {
                latestAnswer = answerToRenew(request);
            } else {
                latestAnswer = answerToDelete(request);
            }
            outgoing.launch(latestAnswer);
            return ANSWERED;
        }

        private Answer answerToOpen(Request request) {
            Deal deal = dealOn(request.offer);
            if (deal == null || isFull()) {
                return no(request);
            }
            int mark = newMark();
            int nonce = newNonce();
            keep(new Child(mark, request.mark, deal, NO_MARK, false, Math.min(request.nonce, nonce)));
            return new Answer(request, false, mark, nonce, deal);
        }

        private Answer answerToRenew(Request request) {
            Child old = childOfOtherMark(request.subjectMark());
            if (old == null || renewalOf(old.mark, true) != null || isFull()) {
                return no(request);
            }
            int mark = newMark();
            int nonce = newNonce();
            keep(new Child(mark, request.mark, old.deal, old.mark, false, Math.min(request.nonce, nonce)));
            return new Answer(request, false, mark, nonce, null);
        }

        private Answer answerToDelete(Request request) {
            Child gone = childOfOtherMark(request.subjectMark());
            if (gone != null) {
                drop(gone.mark);
            }
            return new Answer(request, false, NO_MARK, 0, null);
        }

        private static Answer no(Request request) {
            return new Answer(request, true, NO_MARK, 0, null);
        }

        /** Null if no suite is shared, or no part of the ranges. */
        private Deal dealOn(Offer offer) {
            if (offer == null) {
                return null;
            }
            int sharedLow = Math.max(low, offer.low);
            int sharedHigh = Math.min(high, offer.high);
            if (sharedLow > sharedHigh) {
                return null;
            }
            for (int i = 0; i < offer.suites.length; i++) {
                if (hasSuite(offer.suites[i])) {
                    return new Deal(offer.suites[i], sharedLow, sharedHigh);
                }
            }
            return null;
        }

        private int receiveAnswer(Answer answer) {
            Request request = out;
            if (request == null || request.number != answer.number) {
                return PASSED_OVER;
            }
            out = null;
            if (!answer.no) {
                settle(request, answer);
            }
            return COUNTED;
        }

        private void settle(Request request, Answer answer) {
            if (request.kind == OPEN && answer.deal != null) {
                int worth = Math.min(request.nonce, answer.nonce);
                keep(new Child(request.mark, answer.mark, answer.deal, NO_MARK, true, worth));
            } else if (request.kind == RENEW && request.subject != null) {
                settleRenew(request, answer, request.subject);
            } else if (request.kind == DELETE) {
                drop(request.subjectMark());
            }
        }

        /** The old child may be gone, and the new one find no room: what is too much is told all the same. */
        private void settleRenew(Request request, Answer answer, Child old) {
            int worth = Math.min(request.nonce, answer.nonce);
            Child fresh = new Child(request.mark, answer.mark, old.deal, old.mark, true, worth);
            keep(fresh);
            Child rival = renewalOf(old.mark, false);
            boolean freshGoes = rival != null && losesAgainst(fresh, rival);
            wishes.add(new Wish(DELETE, freshGoes ? fresh.mark : old.mark));
        }

        /** Of equal ones that which peer 0 asked for goes, so that both peers choose the same. */
        private boolean losesAgainst(Child askedHere, Child askedThere) {
            if (askedHere.worth == askedThere.worth) {
                return id == 0;
            }
            return askedHere.worth < askedThere.worth;
        }

        private int newMark() {
            int mark = nextMark;
            nextMark += 2;
            return mark;
        }

        private int newNonce() {
            nonceSource = nonceSource * 1664525 + 1013904223;
            return nonceSource >>> 16;
        }

        private boolean isFull() {
            return offspring.size() >= MOST_CHILDREN;
        }

        private void keep(Child child) {
            if (offspring.size() < MOST_CHILDREN) {
                offspring.add(child);
            }
        }

        private void drop(int mark) {
            for (int i = 0; i < offspring.size(); i++) {
                if (offspring.get(i).mark == mark) {
                    offspring.remove(i);
                    return;
                }
            }
        }

        private Child childOfMark(int mark) {
            for (int i = 0; i < offspring.size(); i++) {
                if (offspring.get(i).mark == mark) {
                    return offspring.get(i);
                }
            }
            return null;
        }

        private Child childOfOtherMark(int otherMark) {
            for (int i = 0; i < offspring.size(); i++) {
                if (offspring.get(i).otherMark == otherMark) {
                    return offspring.get(i);
                }
            }
            return null;
        }

        private Child renewalOf(int mark, boolean askedHere) {
            for (int i = 0; i < offspring.size(); i++) {
                Child each = offspring.get(i);
                if (each.renews == mark && each.askedHere == askedHere) {
                    return each;
                }
            }
            return null;
        }
    }
}
