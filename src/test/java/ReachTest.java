/** Promises 20 to 23: who reaches whom, the mean of patience, and the checksum. */
public final class ReachTest {
    public static void main(String[] args) {
        reach();
        hops();
        longWays();
        patience();
        digest();
        Check.end();
    }

    private static void give(DoorbellChoir x, int tenant, int action, int aim) {
        int habit = x.addHabit(tenant) - 1;
        x.setWhat(tenant, habit, action, aim, 1, 0);
    }

    private static void reach() {
        DoorbellChoir x = Edge.courtyard(6, 9);
        Check.same("reach without a habit", x.reach(0), 0);
        give(x, 0, Edge.SING, 1);
        give(x, 0, Edge.IGNORE, 2);
        Check.same("reach of one who rings not", x.reach(0), 0);
        give(x, 0, Edge.RING, 1);
        Check.same("reach of 0", x.reach(0), 2);
        Check.same("reach of 1", x.reach(1), 0);
        give(x, 1, Edge.SING_AND_RING, 4);
        x.setWhen(1, 0, 3, 3, 0, 9);
        Check.same("reach whatever hour, sort and patience", x.reach(0), 2 + 16);
        give(x, 4, Edge.BESIDE, 4);
        Check.same("reach of 4", x.reach(4), 8 + 32);
        Check.same("reach of 0 by those beside", x.reach(0), 2 + 16 + 8 + 32);
        give(x, 5, Edge.RING, 5);
        Check.same("reach of 5, itself", x.reach(5), 32);
        give(x, 3, Edge.ALL, 0);
        Check.same("reach of 3, all", x.reach(3), 63);
        Check.same("reach of 4, it comes back", x.reach(4), 63);
        Check.same("reach of 2", x.reach(2), 0);
        give(x, 2, Edge.RING, 2);
        give(x, 2, Edge.RING, 5);
        Check.same("reach of 2 by both habits", x.reach(2), 4 + 32);
        x.dropHabit(0, 2);
        Check.same("reach behind a drop", x.reach(0), 0);
        Check.noSuch("reach(6)", x, () -> x.reach(6));
        Check.noSuch("reach(-1)", x, () -> x.reach(-1));
        DoorbellChoir ends = Edge.courtyard(3, 9);
        give(ends, 0, Edge.BESIDE, 0);
        give(ends, 2, Edge.BESIDE, 0);
        Check.same("reach of the first door", ends.reach(0), 2);
        Check.same("reach of the last door", ends.reach(2), 2);
        DoorbellChoir alone = Edge.courtyard(1, 9);
        give(alone, 0, Edge.ALL, 0);
        Check.same("reach of one who is alone", alone.reach(0), 0);
        alone.moveIn(1, 1);
        Check.same("reach when one moved in", alone.reach(0), 2);
    }

    private static void hops() {
        DoorbellChoir x = Edge.courtyard(5, 9);
        give(x, 0, Edge.RING, 1);
        give(x, 1, Edge.RING, 2);
        give(x, 2, Edge.BESIDE, 0);
        give(x, 3, Edge.RING, 3);
        int[][] due = {{-1, 1, 2, 3, -1}, {-1, 2, 1, 2, -1}, {-1, 1, 2, 1, -1},
            {-1, -1, -1, 1, -1}, {-1, -1, -1, -1, -1}};
        for (int a = 0; a < 5; a++) {
            for (int b = 0; b < 5; b++) {
                Check.same("hops(" + a + ", " + b + ")", x.hops(a, b), due[a][b]);
            }
        }
        give(x, 0, Edge.ALL, 0);
        Check.same("hops(0, 4) by a second habit", x.hops(0, 4), 1);
        Check.same("hops(0, 3) by a second habit", x.hops(0, 3), 1);
        give(x, 0, Edge.RING, 0);
        Check.same("hops(0, 4) with a third habit", x.hops(0, 4), 1);
        Check.same("hops(0, 0) by a third habit", x.hops(0, 0), 1);
        Check.noSuch("hops(5, 0)", x, () -> x.hops(5, 0));
        Check.noSuch("hops(0, 5)", x, () -> x.hops(0, 5));
        Check.noSuch("hops(-1, 0)", x, () -> x.hops(-1, 0));
        Check.noSuch("hops(0, -1)", x, () -> x.hops(0, -1));
    }

    private static void longWays() {
        DoorbellChoir x = Edge.courtyard(16, 9);
        for (int i = 0; i < 15; i++) {
            give(x, i, Edge.RING, i + 1);
        }
        Check.same("hops(0, 15), more than 8", x.hops(0, 15), 15);
        Check.same("hops(0, 0), no way back", x.hops(0, 0), -1);
        Check.same("reach(0), all but itself", x.reach(0), 65534);
        give(x, 15, Edge.RING, 0);
        Check.same("hops(0, 0), all around", x.hops(0, 0), 16);
        Check.same("hops(9, 8)", x.hops(9, 8), 15);
        Check.same("reach(0), all", x.reach(0), 65535);
    }

    private static void patience() {
        DoorbellChoir x = new DoorbellChoir();
        Check.sameDouble("patience() of none", x.patience(), 0.0);
        x.moveIn(0, 9);
        Check.sameDouble("patience() of one", x.patience(), 9.0);
        x.moveIn(0, 4);
        x.moveIn(0, 0);
        Check.sameDouble("patience() of three", x.patience(), 13.0 / 3);
        x.ring(0);
        x.ring(2);
        Check.sameDouble("patience() behind rings", x.patience(), 4.0);
        x.ring(0);
        Check.sameDouble("patience() behind a lost ring", x.patience(), 4.0);
        x.pass(60);
        Check.sameDouble("patience() an hour later", x.patience(), 13.0 / 3);
    }

    /** Reckoned from what the other calls tell, as the document says. */
    private static long dueDigest(DoorbellChoir x) {
        long d = 439;
        for (int what = 0; what < 9; what++) {
            d = d * 31 + x.count(what);
        }
        for (int tenant = 0; tenant < x.count(2); tenant++) {
            for (int what = 0; what < 6; what++) {
                d = d * 31 + x.tenant(tenant, what);
            }
            for (int habit = 0; habit < x.tenant(tenant, 3); habit++) {
                for (int what = 0; what < 9; what++) {
                    d = d * 31 + x.habit(tenant, habit, what);
                }
            }
        }
        for (int index = 0; index < x.count(3); index++) {
            for (int what = 0; what < 5; what++) {
                d = d * 31 + x.waiting(index, what);
            }
        }
        for (int index = 0; index < Math.min(200, x.count(6)); index++) {
            for (int what = 0; what < 6; what++) {
                d = d * 31 + x.sung(index, what);
            }
        }
        return d;
    }

    private static void digest() {
        DoorbellChoir x = new DoorbellChoir();
        long due = 439;
        for (int what = 0; what < 8; what++) {
            due *= 31;
        }
        due = due * 31 + 60;
        Check.same("digest() of none", x.digest(), due);
        for (int steps = 0; steps <= 24; steps++) {
            DoorbellChoir busy = busyCourtyard(steps);
            Check.same("digest() behind " + steps, busy.digest(), dueDigest(busy));
        }
        tellingChangesNothing();
    }

    /** Each time a new one: to ask for all that a digest is made of takes many of its calls. */
    private static DoorbellChoir busyCourtyard(int steps) {
        DoorbellChoir x = new DoorbellChoir();
        x.moveIn(40, 9);
        x.moveIn(44, 8);
        x.moveIn(87, 1);
        give(x, 0, Edge.SING_AND_RING, 1);
        give(x, 0, Edge.RING, 1);
        give(x, 1, Edge.ALL, 1);
        give(x, 2, Edge.SING_AND_RING, 0);
        for (int i = 0; i < steps; i++) {
            if (i % 2 == 0) {
                x.ring(i / 2 % 3);
            } else {
                x.pass(i / 2 % 4 + 1);
            }
        }
        return x;
    }

    private static void tellingChangesNothing() {
        DoorbellChoir x = busyCourtyard(13);
        long before = x.digest();
        x.reach(0);
        x.hops(0, 2);
        x.best();
        x.sounds(0, 3);
        x.fits(0, 0, 0);
        x.patience();
        Check.same("telling changes nothing", x.digest(), before);
    }
}
