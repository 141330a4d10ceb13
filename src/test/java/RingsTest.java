/** Promises 10 to 14: rings, time, counts, what waits and what fits. */
public final class RingsTest {
    public static void main(String[] args) {
        ring();
        patienceOfRings();
        firstHabitThatFits();
        whoIsRungAt();
        orderOfWaiting();
        sameTick();
        atMostSixty();
        eightHops();
        pass();
        hoursAndPatience();
        count();
        waiting();
        fits();
        Check.end();
    }

    private static void dueWaiting(String when, DoorbellChoir x, int[][] due) {
        Check.same(when + ": how many wait", x.count(3), due.length);
        for (int i = 0; i < due.length && i < x.count(3); i++) {
            for (int what = 0; what < 5; what++) {
                Check.same(when + ": waiting(" + i + ", " + what + ")", x.waiting(i, what),
                    due[i][what]);
            }
        }
    }

    private static void ring() {
        DoorbellChoir x = Edge.courtyard(2, 9);
        Check.noSuch("ring(2)", x, () -> x.ring(2));
        Check.noSuch("ring(-1)", x, () -> x.ring(-1));
        Check.noSuch("ring(least)", x, () -> x.ring(Integer.MIN_VALUE));
        x.addHabit(0);
        Check.same("ring at one who ignores", x.ring(0), 0);
        Check.same("ring again", x.ring(0), 2);
        Check.same("ring where no habit is", x.ring(1), 1);
        Check.same("ring there again", x.ring(1), 2);
        Check.same("heard by 0", x.tenant(0, 4), 1);
        Check.same("heard by 1", x.tenant(1, 4), 1);
        Check.same("heard", x.count(4), 2);
        Check.same("lost", x.count(5), 2);
        Check.same("patience of 0", x.tenant(0, 2), 8);
        Check.same("patience of 1", x.tenant(1, 2), 8);
        Check.same("followed", x.habit(0, 0, 8), 1);
        x.setWhen(0, 0, 0, 23, 1, 0);
        x.pass(1);
        Check.same("ring with a habit for tenants alone", x.ring(0), 1);
        Check.same("not followed by it", x.habit(0, 0, 8), 1);
        x.moveIn(3, 3);
        Check.same("ring at one who is new at this tick", x.ring(2), 1);
    }

    private static void patienceOfRings() {
        DoorbellChoir x = Edge.courtyard(1, 2);
        x.addHabit(0);
        x.setWhen(0, 0, 0, 23, 2, 1);
        int[] answers = {0, 0, 1, 1};
        int[] left = {1, 0, 0, 0};
        for (int i = 0; i < answers.length; i++) {
            Check.same("ring " + i + " with little patience", x.ring(0), answers[i]);
            Check.same("patience behind it", x.tenant(0, 2), left[i]);
            x.pass(1);
        }
    }

    private static void firstHabitThatFits() {
        DoorbellChoir x = Edge.courtyard(2, 3);
        Edge.give(x, 0, Edge.IGNORE, 0, 1, 0);
        x.setWhen(0, 0, 0, 23, 1, 0);
        Edge.give(x, 0, Edge.RING, 1, 5, 1);
        x.setWhen(0, 1, 0, 23, 0, 3);
        Edge.give(x, 0, Edge.RING, 1, 6, 2);
        Edge.give(x, 0, Edge.RING, 1, 7, 3);
        x.ring(0);
        x.pass(1);
        x.ring(0);
        dueWaiting("first habit", x, new int[][] {{5, 1, 0, 1, 1}, {7, 1, 0, 2, 1}});
        int[] followed = {0, 1, 1, 0};
        for (int i = 0; i < followed.length; i++) {
            Check.same("habit " + i + " was followed", x.habit(0, i, 8), followed[i]);
        }
    }

    private static void whoIsRungAt() {
        for (int at = 0; at < 4; at++) {
            DoorbellChoir x = Edge.courtyard(4, 9);
            Edge.give(x, at, Edge.BESIDE, 3, 2, -4);
            x.ring(at);
            if (at == 0) {
                dueWaiting("beside 0", x, new int[][] {{2, 1, 0, -4, 1}});
            } else if (at == 3) {
                dueWaiting("beside 3", x, new int[][] {{2, 2, 3, -4, 1}});
            } else {
                dueWaiting("beside " + at, x,
                    new int[][] {{2, at - 1, at, -4, 1}, {2, at + 1, at, -4, 1}});
            }
        }
        DoorbellChoir all = Edge.courtyard(4, 9);
        Edge.give(all, 2, Edge.ALL, 0, 99, 12);
        all.ring(2);
        dueWaiting("all others", all,
            new int[][] {{99, 0, 2, 12, 1}, {99, 1, 2, 12, 1}, {99, 3, 2, 12, 1}});
        Check.same("ring all sings not", all.count(6), 0);
        DoorbellChoir self = Edge.courtyard(2, 9);
        Edge.give(self, 1, Edge.RING, 1, 3, -12);
        self.ring(1);
        dueWaiting("at itself", self, new int[][] {{3, 1, 1, -12, 1}});
        self.pass(3);
        dueWaiting("at itself again", self, new int[][] {{6, 1, 1, -24, 2}});
        DoorbellChoir both = Edge.courtyard(2, 9);
        Edge.give(both, 1, Edge.SING_AND_RING, 0, 3, 2);
        both.ring(1);
        dueWaiting("sing and ring", both, new int[][] {{3, 0, 1, 2, 1}});
        Check.same("sing and ring sings", both.count(6), 1);
        for (int action = 0; action < 2; action++) {
            DoorbellChoir none = Edge.courtyard(2, 9);
            Edge.give(none, 1, action, 0, 3, 2);
            none.ring(1);
            dueWaiting("action " + action, none, new int[][] {});
            Check.same("notes of action " + action, none.count(6), 1 - action);
        }
        DoorbellChoir alone = Edge.courtyard(1, 9);
        Edge.give(alone, 0, Edge.BESIDE, 0, 1, 0);
        alone.ring(0);
        dueWaiting("nobody beside", alone, new int[][] {});
        DoorbellChoir full = Edge.courtyard(16, 9);
        Edge.give(full, 15, Edge.BESIDE, 0, 1, 0);
        full.ring(15);
        dueWaiting("beside the last door", full, new int[][] {{1, 14, 15, 0, 1}});
    }

    private static void orderOfWaiting() {
        DoorbellChoir x = Edge.courtyard(4, 9);
        Edge.give(x, 3, Edge.RING, 2, 4, 1);
        Edge.give(x, 2, Edge.RING, 2, 4, 2);
        Edge.give(x, 1, Edge.RING, 1, 4, 3);
        Edge.give(x, 0, Edge.RING, 3, 3, 4);
        x.ring(3);
        x.ring(2);
        x.ring(1);
        x.ring(0);
        dueWaiting("by tick, by tenant, by coming", x, new int[][] {
            {3, 3, 0, 4, 1}, {4, 1, 1, 3, 1}, {4, 2, 3, 1, 1}, {4, 2, 2, 2, 1}});
        x.setWhen(2, 0, 5, 5, 0, 0);
        x.pass(4);
        Check.same("the one that came later is lost", x.count(5), 1);
        Check.same("tenant 2 heard once more", x.tenant(2, 4), 2);
    }

    private static void sameTick() {
        DoorbellChoir x = Edge.courtyard(3, 9);
        Edge.give(x, 0, Edge.RING, 2, 4, 5);
        Edge.give(x, 1, Edge.RING, 2, 3, 7);
        x.addHabit(2);
        x.setWhat(2, 0, Edge.SING_AND_RING, 2, 10, 0);
        x.ring(0);
        x.pass(1);
        x.ring(1);
        Check.same("two that come at once: one is heard", x.pass(3), 1);
        Check.same("the other one is lost", x.count(5), 1);
        Check.same("the first one was sung", x.sung(0, 2), 47);
        Check.same("by the ring of 0", x.sung(0, 5), 0);
        Check.same("patience is less by 1 alone", x.tenant(2, 2), 8);
        Check.same("followed once", x.habit(2, 0, 8), 1);
        Check.same("a visitor at this tick is lost", x.ring(2), 2);
        Check.same("so it is counted", x.count(5), 2);
        x.pass(1);
        Check.same("a visitor at the next one is heard", x.ring(2), 0);
    }

    private static void atMostSixty() {
        DoorbellChoir x = Edge.courtyard(16, 9);
        for (int i = 0; i < 5; i++) {
            Edge.give(x, i, Edge.ALL, 0, 10, 0);
        }
        for (int i = 0; i < 4; i++) {
            x.ring(i);
        }
        Check.same("four rang at all others", x.count(3), 60);
        Check.same("and none was lost", x.count(5), 0);
        x.ring(4);
        Check.same("still 60 wait", x.count(3), 60);
        Check.same("15 were lost", x.count(5), 15);
        Check.same("heard", x.count(4), 5);
        x.setWhen(0, 0, 23, 23, 0, 0);
        x.pass(10);
        Check.same("one ring at each tenant is heard", x.count(4), 5 + 16);
        Check.same("lost ones of the same tick and for want of room", x.count(5),
            15 + (60 - 16) + lostForWantOfRoom());
    }

    /**
     * Tenants 0 to 3 are rung at 3 times each, 4 to 15 are 4 times; 1 to 4 ring at 15 others when
     * they hear the first one, while the rest of the tick still waits.
     */
    private static int lostForWantOfRoom() {
        int waiting = 60;
        int lost = 0;
        for (int at = 0; at < 16; at++) {
            int rings = at < 4 ? 3 : 4;
            waiting--;
            if (at >= 1 && at <= 4) {
                int come = Math.min(15, 60 - waiting);
                waiting += come;
                lost += 15 - come;
            }
            waiting -= rings - 1;
        }
        return lost;
    }

    private static void eightHops() {
        DoorbellChoir x = Edge.courtyard(2, 0);
        Edge.give(x, 0, Edge.SING_AND_RING, 0, 1, -3);
        x.ring(0);
        Check.same("heard in 20 ticks", x.pass(20), 8);
        Check.same("notes sung", x.count(6), 9);
        Check.same("most hops", x.count(7), 8);
        Check.same("none waits", x.count(3), 0);
        Check.same("none is lost", x.count(5), 0);
        Check.same("followed with 8 hops too", x.habit(0, 0, 8), 9);
        Check.same("hops of the last one", x.sung(8, 4), 8);
        Check.same("its note", x.sung(8, 2), 40 - 24);
    }

    private static void pass() {
        DoorbellChoir x = Edge.courtyard(2, 9);
        Check.badArgument("pass(0)", x, () -> x.pass(0));
        Check.badArgument("pass(-1)", x, () -> x.pass(-1));
        Check.badArgument("pass(1001)", x, () -> x.pass(1001));
        Check.badArgument("pass(most)", x, () -> x.pass(Integer.MAX_VALUE));
        Edge.give(x, 0, Edge.RING, 1, 99, 0);
        x.ring(0);
        Check.same("pass(98)", x.pass(98), 0);
        Check.same("pass(1)", x.pass(1), 1);
        Check.same("pass(1000)", x.pass(1000), 0);
        Check.same("the tick", x.count(0), 1099);
    }

    private static void hoursAndPatience() {
        DoorbellChoir x = Edge.courtyard(2, 2);
        x.setHour(5);
        Edge.give(x, 0, Edge.RING, 1, 5, 0);
        x.addHabit(1);
        x.setWhen(1, 0, 1, 1, 1, 2);
        x.ring(1);
        Check.same("patience behind a ring", x.tenant(1, 2), 1);
        x.ring(0);
        x.pass(4);
        Check.same("patience at tick 4", x.tenant(1, 2), 1);
        x.pass(1);
        Check.same("patience grew ahead of the ring", x.habit(1, 0, 8), 1);
        Check.same("and was less then", x.tenant(1, 2), 1);
        Check.same("that of the other grew", x.tenant(0, 2), 2);
        x.pass(5);
        Check.same("patience at tick 10", x.tenant(1, 2), 2);
        Check.same("not over the greatest", x.tenant(0, 2), 2);
        x.setHour(7);
        x.pass(1);
        x.ring(1);
        x.pass(2);
        Check.same("patience at tick 13, an hour of 7", x.tenant(1, 2), 1);
        x.pass(1);
        Check.same("patience at tick 14", x.tenant(1, 2), 2);
        x.ring(1);
        x.setHour(14);
        Check.same("an hour told when its tick has come", x.tenant(1, 2), 1);
    }

    private static void count() {
        DoorbellChoir x = Edge.courtyard(3, 9);
        x.setHour(6);
        Edge.give(x, 0, Edge.SING_AND_RING, 1, 4, 0);
        Edge.give(x, 1, Edge.RING, 2, 5, 0);
        x.ring(0);
        x.ring(0);
        x.pass(8);
        int[] due = {8, 1, 3, 1, 2, 1, 1, 1, 6};
        for (int what = 0; what < due.length; what++) {
            Check.same("count(" + what + ")", x.count(what), due[what]);
        }
        x.emptySongs();
        Check.same("count(6) behind an emptying", x.count(6), 0);
        x.pass(6 * 24 - 9);
        Check.same("the last hour", x.count(1), 23);
        x.pass(1);
        Check.same("the first hour again", x.count(1), 0);
        Check.noSuch("count(9)", x, () -> x.count(9));
        Check.noSuch("count(-1)", x, () -> x.count(-1));
    }

    private static void waiting() {
        DoorbellChoir x = Edge.courtyard(3, 9);
        Edge.give(x, 2, Edge.BESIDE, 0, 9, 3);
        Edge.give(x, 1, Edge.RING, 0, 4, -5);
        x.pass(2);
        x.ring(2);
        dueWaiting("one", x, new int[][] {{11, 1, 2, 3, 1}});
        x.pass(9);
        dueWaiting("the next", x, new int[][] {{15, 0, 1, -2, 2}});
        Check.noSuch("waiting(1, 0)", x, () -> x.waiting(1, 0));
        Check.noSuch("waiting(-1, 0)", x, () -> x.waiting(-1, 0));
        Check.noSuch("waiting(0, 5)", x, () -> x.waiting(0, 5));
        Check.noSuch("waiting(0, -1)", x, () -> x.waiting(0, -1));
    }

    private static void fits() {
        DoorbellChoir x = Edge.courtyard(2, 3);
        Check.same("fits without a habit", x.fits(0, 0, 0), -1);
        x.addHabit(0);
        x.addHabit(0);
        x.addHabit(0);
        x.addHabit(0);
        x.setWhen(0, 0, 22, 2, 0, 0);
        x.setWhen(0, 1, 5, 7, 1, 0);
        x.setWhen(0, 2, 9, 9, 2, 3);
        x.setWhen(0, 3, 7, 10, 2, 0);
        int[] visitor = {0, 0, 0, -1, -1, -1, -1, 3, 3, 2, 3, -1,
            -1, -1, -1, -1, -1, -1, -1, -1, -1, -1, 0, 0};
        int[] tenant = {-1, -1, -1, -1, -1, 1, 1, 1, 3, 2, 3, -1,
            -1, -1, -1, -1, -1, -1, -1, -1, -1, -1, -1, -1};
        for (int hour = 0; hour < 24; hour++) {
            Check.same("fits(0, 0, " + hour + ")", x.fits(0, 0, hour), visitor[hour]);
            Check.same("fits(0, 1, " + hour + ")", x.fits(0, 1, hour), tenant[hour]);
        }
        x.ring(0);
        Check.same("fits with less patience", x.fits(0, 0, 9), 3);
        Check.same("fits follows no habit", x.habit(0, 3, 8), 0);
        Check.noSuch("fits(2, 0, 0)", x, () -> x.fits(2, 0, 0));
        Check.noSuch("fits(-1, 2, 24)", x, () -> x.fits(-1, 2, 24));
        Check.badArgument("fits sort 2", x, () -> x.fits(0, 2, 0));
        Check.badArgument("fits sort -1", x, () -> x.fits(0, -1, 0));
        Check.badArgument("fits hour 24", x, () -> x.fits(0, 0, 24));
        Check.badArgument("fits hour -1", x, () -> x.fits(0, 0, -1));
    }
}
