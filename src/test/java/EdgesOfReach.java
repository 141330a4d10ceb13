import java.math.BigInteger;
import java.util.ArrayList;
import java.util.List;

/** The edges of who reaches whom, of the mean and of the checksum: promises 20 to 23. */
final class EdgesOfReach {
    private EdgesOfReach() {
    }

    static void run() {
        reach();
        hops();
        patience();
        digest();
    }

    private static void reach() {
        Document.promise(20);
        Document.says("Tells whom a ring can reach, whatever the hour, the patience and the sort, "
            + "and with any number of hops (8 is no bound here): from the tenant on, along all "
            + "habits that ring.");
        DoorbellChoir chain = chain(16);
        Check.same("15 hops", chain.reach(0), 65534);
        Check.same("9 hops", chain.reach(6), 65408);
        Check.same("8 hops", chain.reach(7), 65280);
        Check.same("one hop", chain.reach(14), 32768);
        Check.same("from the last one", chain.reach(15), 0);
        DoorbellChoir never = Edge.courtyard(2, 0);
        Edge.give(never, 0, Edge.IGNORE, 1, 1, 0);
        Edge.give(never, 0, Edge.RING, 1, 1, 0);
        never.setWhen(0, 1, 23, 23, 1, 9);
        Check.same("by a habit that never fits", never.reach(0), 2);
        DoorbellChoir eighth = Edge.courtyard(10, 9);
        for (int i = 0; i < 8; i++) {
            Edge.give(eighth, 0, Edge.RING, i + 2, 1, 0);
        }
        Check.same("along all 8 habits", eighth.reach(0), 1020);
        eighth.dropHabit(0, 7);
        Check.same("along 7 habits", eighth.reach(0), 508);
        Document.says("Returns the set of these (as the sum of the powers 2^k of their numbers k); "
            + "the tenant itself only if a ring can come back to it.");
        int[][] ownDue = {{0, 0, 1, 0, 1, 0}, {0, 0, 1, 2, 1, 2}, {0, 0, 1, 2, 1, 6}};
        for (int tenants = 1; tenants <= 3; tenants++) {
            for (int action = Edge.SING; action <= Edge.ALL; action++) {
                DoorbellChoir x = Edge.courtyard(tenants, 9);
                Check.same("without a habit", x.reach(0), 0);
                Edge.give(x, 0, action, 0, 1, 0);
                Check.same("action " + action + " of " + tenants, x.reach(0),
                    ownDue[tenants - 1][action]);
            }
        }
        Edge.give(chain, 15, Edge.RING, 0, 1, 0);
        for (int i = 0; i < 16; i++) {
            Check.same("all around, from " + i, chain.reach(i), 65535);
        }
        chain.setWhat(15, 0, Edge.BESIDE, 0, 1, 0);
        Check.same("the last door, to and fro", chain.reach(15), 49152);
        chain.setWhat(15, 0, Edge.RING, 15, 1, 0);
        Check.same("the last one at itself", chain.reach(15), 32768);
        Document.says("Throws `IndexOutOfBoundsException` if there is no such tenant");
        Edge.outside("reach", 0, 15, Edge.NO_SUCH, chain, n -> chain.reach(n));
        Edge.outside("reach of two", 0, 1, Edge.NO_SUCH, never, n -> never.reach(n));
    }

    /** Each tenant rings at the next one; the last one has no habit. */
    private static DoorbellChoir chain(int tenants) {
        DoorbellChoir x = Edge.courtyard(tenants, 9);
        for (int i = 0; i + 1 < tenants; i++) {
            Edge.give(x, i, Edge.RING, i + 1, 1, 0);
        }
        return x;
    }

    private static void hops() {
        Document.promise(21);
        Document.says("Returns the least number of hops with which a ring from a to b can come, "
            + "likewise; -1 if none can (from a tenant to itself: the least one that is not 0).");
        DoorbellChoir x = chain(16);
        for (int a = 0; a < 16; a++) {
            for (int b = a - 1; b < 16; b += 5) {
                if (b >= 0) {
                    Check.same("hops(" + a + ", " + b + ")", x.hops(a, b), b > a ? b - a : -1);
                }
            }
        }
        Check.same("8 hops", x.hops(0, 8), 8);
        Check.same("9 hops", x.hops(0, 9), 9);
        Check.same("15 hops", x.hops(0, 15), 15);
        Check.same("none back to itself", x.hops(0, 0), -1);
        Check.same("none from the last one", x.hops(15, 15), -1);
        Edge.give(x, 15, Edge.RING, 0, 1, 0);
        Check.same("from the first to itself", x.hops(0, 0), 16);
        Check.same("from the last to itself", x.hops(15, 15), 16);
        Check.same("all around, but one", x.hops(1, 0), 15);
        x.setWhat(0, 0, Edge.RING, 0, 1, 0);
        Check.same("at itself", x.hops(0, 0), 1);
        Check.same("to itself alone", x.hops(0, 1), -1);
        x.setWhat(0, 0, Edge.ALL, 0, 1, 0);
        Check.same("the first one at all others", x.hops(0, 15), 1);
        Check.same("and back", x.hops(0, 0), 2);
        x.setWhat(15, 0, Edge.BESIDE, 0, 1, 0);
        Check.same("the last door, beside", x.hops(15, 14), 1);
        Check.same("the last door, to and fro", x.hops(15, 15), 2);
        Check.same("the last door to the first one", x.hops(15, 0), -1);
        // The least of two ways is told, in whichever order the habits stand.
        DoorbellChoir two = chain(4);
        Edge.give(two, 0, Edge.RING, 3, 1, 0);
        Check.same("the shorter way is that of the later habit", two.hops(0, 3), 1);
        Check.same("the longer way is no other", two.hops(0, 2), 2);
        two.setWhen(0, 1, 0, 0, 0, 9);
        Check.same("likewise: whatever the hour", two.hops(0, 3), 1);
        Document.says("Throws `IndexOutOfBoundsException` if there is no such tenant");
        Edge.outside("a of 16", 0, 15, Edge.NO_SUCH, x, n -> x.hops(n, 0));
        Edge.outside("b of 16", 0, 15, Edge.NO_SUCH, x, n -> x.hops(0, n));
        Edge.outside("both of 4", 0, 3, Edge.NO_SUCH, two, n -> two.hops(n, n));
        Edge.outside("b where none rings", 0, 3, Edge.NO_SUCH, two, n -> two.hops(3, n));
    }

    private static void patience() {
        Document.promise(22);
        Document.says("Returns the mean of the patience of all tenants; 0 if there are none.");
        DoorbellChoir x = new DoorbellChoir();
        Check.sameDouble("of none", x.patience(), 0.0);
        x.pass(1000);
        Check.sameDouble("of none, later", x.patience(), 0.0);
        x.moveIn(0, 0);
        Check.sameDouble("of one without any", x.patience(), 0.0);
        x.moveIn(0, 1);
        Check.sameDouble("of two: not cut", x.patience(), 0.5);
        x.moveIn(0, 0);
        Check.sameDouble("of three: not cut", x.patience(), 1.0 / 3.0);
        DoorbellChoir full = Edge.courtyard(16, 9);
        Check.sameDouble("of 16 with the most", full.patience(), 9.0);
        full.ring(15);
        Check.sameDouble("of 16, one with 8", full.patience(), 143.0 / 16.0);
        full.ring(15);
        Check.sameDouble("of 16, one was lost", full.patience(), 143.0 / 16.0);
        full.pass(59);
        Check.sameDouble("of 16, ahead of the hour", full.patience(), 143.0 / 16.0);
        full.pass(1);
        Check.sameDouble("of 16, an hour later", full.patience(), 9.0);
        full.pass(600);
        Check.sameDouble("of 16, ten hours later", full.patience(), 9.0);
    }

    private static void digest() {
        Document.promise(23);
        Document.says("Computes a checksum.");
        Document.says("A number d starts with 439; for each of the following numbers x, d becomes "
            + "d * 31 + x, which wraps around as a 64-bit integer: what count() tells, in its "
            + "order; for each tenant what tenant() tells, in its order, and for each of its habits "
            + "what habit() tells, in its order; for each ring that waits what waiting() tells, in "
            + "its order; for each kept note what sung() tells, in its order.");
        Document.says("Returns d.");
        DoorbellChoir x = new DoorbellChoir();
        dueDigest("none", x, false);
        x.moveIn(0, 0);
        dueDigest("one tenant", x, true);
        x.addHabit(0);
        dueDigest("one habit", x, true);
        Edge.give(x, 0, Edge.SING_AND_RING, 0, 1, -12);
        x.dropHabit(0, 0);
        dueDigest("a habit with a shift below 0", x, true);
        x.ring(0);
        Check.same("the waiting ring's shift", x.waiting(0, 3), -12);
        Check.same("the note's ringer", x.sung(0, 5), -1);
        dueDigest("a ring with a shift below 0, a note of a visitor's ring", x, true);
        x.emptySongs();
        dueDigest("none is kept", x, true);
        fullDigest();
    }

    /** Reckoned without a bound, and cut to 64 bits just at the end. */
    private static void dueDigest(String when, DoorbellChoir x, boolean isLong) {
        List<Integer> numbers = new ArrayList<>();
        tell(numbers, 9, what -> x.count(what));
        for (int t = 0; t < x.count(2); t++) {
            int tenant = t;
            tell(numbers, 6, what -> x.tenant(tenant, what));
            for (int h = 0; h < x.tenant(tenant, 3); h++) {
                int habit = h;
                tell(numbers, 9, what -> x.habit(tenant, habit, what));
            }
        }
        for (int i = 0; i < x.count(3); i++) {
            int index = i;
            tell(numbers, 5, what -> x.waiting(index, what));
        }
        for (int i = 0; i < x.count(6); i++) {
            int index = i;
            tell(numbers, 6, what -> x.sung(index, what));
        }
        BigInteger d = BigInteger.valueOf(439);
        for (int number : numbers) {
            d = d.multiply(BigInteger.valueOf(31)).add(BigInteger.valueOf(number));
        }
        Check.same("digest, " + when, x.digest(), d.longValue());
        Check.same("it wraps around, " + when, d.bitLength() > 63 ? 1 : 0, isLong ? 1 : 0);
    }

    private static void tell(List<Integer> numbers, int parts,
        java.util.function.IntUnaryOperator told) {
        for (int what = 0; what < parts; what++) {
            numbers.add(told.applyAsInt(what));
        }
    }

    /**
     * 16 tenants with 8 habits each, 60 rings that wait and 200 notes that are kept: to ask for all
     * their numbers takes more than the 512 calls, so PlainCourtyard tells what is due.
     */
    private static void fullDigest() {
        DoorbellChoir x = new DoorbellChoir();
        PlainCourtyard plain = new PlainCourtyard();
        for (int i = 0; i < 16; i++) {
            x.moveIn(87 - i, 9);
            plain.moveIn(87 - i, 9);
        }
        for (int i = 0; i < 16; i++) {
            for (int k = 0; k < 8; k++) {
                x.addHabit(i);
                plain.addHabit(i);
            }
            x.setWhat(i, 0, Edge.SING_AND_RING, 15 - i, 1 + i, i - 8);
            plain.setWhat(i, 0, Edge.SING_AND_RING, 15 - i, 1 + i, i - 8);
            x.setWhat(i, 7, Edge.ALL, i, 99, -12);
            plain.setWhat(i, 7, Edge.ALL, i, 99, -12);
        }
        for (int i = 0; i < 48; i++) {
            Check.same("ring " + i, x.ring(i % 16), plain.ring(i % 16));
            Check.same("pass " + i, x.pass(1 + i), plain.pass(1 + i));
        }
        for (int i = 0; i < 5; i++) {
            while (x.tenant(i, 3) > 1) {
                x.dropHabit(i, 0);
                plain.dropHabit(i, 0);
            }
            Check.same("ring at one who rings at all", x.ring(i), plain.ring(i));
            x.addHabit(i);
            plain.addHabit(i);
        }
        Check.same("full: wait", x.count(3), 60);
        Check.same("full: were sung", x.count(6) > 200 ? 1 : 0, 1);
        Check.same("full: the digest", x.digest(), plain.digest());
        x.emptySongs();
        plain.emptySongs();
        Check.same("behind an emptying: the digest", x.digest(), plain.digest());
    }
}
