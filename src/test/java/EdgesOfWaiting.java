/** The edges that the document names of the rings that wait, and what fits: promises 13 and 14. */
final class EdgesOfWaiting {
    private EdgesOfWaiting() {
    }

    static void run() {
        order();
        atMostSixty();
        whileOneIsDone();
        waiting();
        fits();
    }

    private static void order() {
        Document.terms();
        Document.says("The rings wait in the order of their ticks, of the same tick in that of the "
            + "tenants at whom they are, of the same tenant in that in which they came to wait.");
        DoorbellChoir x = Edge.courtyard(16, 9);
        int[][] ringerAimDelay = {{4, 15, 9}, {3, 0, 10}, {2, 15, 10}, {15, 15, 10}, {1, 0, 9},
            {0, 15, 9}, {14, 15, 9}, {13, 14, 9}, {12, 0, 99}, {11, 15, 1}};
        for (int[] one : ringerAimDelay) {
            Edge.give(x, one[0], Edge.RING, one[1], one[2], 0);
            x.ring(one[0]);
        }
        Edge.waiting("in their order", x, new int[] {1, 15, 11, 0, 1}, new int[] {9, 0, 1, 0, 1},
            new int[] {9, 14, 13, 0, 1}, new int[] {9, 15, 4, 0, 1}, new int[] {9, 15, 0, 0, 1},
            new int[] {9, 15, 14, 0, 1}, new int[] {10, 0, 3, 0, 1}, new int[] {10, 15, 2, 0, 1},
            new int[] {10, 15, 15, 0, 1}, new int[] {99, 0, 12, 0, 1});
        // One that comes at a later tick is behind those for the same tick and the same tenant.
        x.pass(1);
        x.setWhat(10, x.addHabit(10) - 1, Edge.RING, 15, 8, 0);
        x.ring(10);
        Check.same("the one that came ahead of it", x.waiting(4, 2), 14);
        Check.same("the one that came last", x.waiting(5, 2), 10);
        Check.same("the next tenant or tick", x.waiting(6, 0), 10);
        // Of those at the same tenant the one that came first is done first, so it is heard.
        x.setWhat(15, 0, Edge.SING, 0, 1, 0);
        Check.same("heard at tick 9, by 0, 14 and 15", x.pass(8), 3);
        Check.same("lost at tick 9", x.count(5), 3);
        Check.same("who rang the one that was heard", x.sung(0, 5), 4);
    }

    private static void atMostSixty() {
        Document.terms();
        Document.says("At most 60 wait (the one that is being done does not wait any more, those of "
            + "the same tick that are not done yet do); if there would be more, the one that comes "
            + "is lost.");
        DoorbellChoir last = Edge.withWaiting(59);
        dueCounts("59 wait", last, 59, 0);
        last.ring(15);
        dueCounts("the 60th came", last, 60, 0);
        last.ring(14);
        dueCounts("the 61st came", last, 60, 1);
        Check.same("it is heard all the same", last.tenant(14, 4), 2);
        Check.same("and its habit followed", last.habit(14, 0, 8), 2);
        // Action 3 rings at one less, then at one more: of two that come the first one has room.
        DoorbellChoir beside = Edge.withWaiting(59);
        beside.setWhat(9, 0, Edge.BESIDE, 0, 98, 5);
        beside.ring(9);
        dueCounts("two came beside", beside, 60, 1);
        int[] came = waitingBy(9, beside);
        Check.same("the door of one less has room", came[8], 1);
        Check.same("the door of one more has not", came[10], 0);
        // Action 5 rings in ascending order.
        DoorbellChoir all = Edge.withWaiting(58);
        all.setWhat(9, 0, Edge.ALL, 0, 98, 5);
        all.ring(9);
        dueCounts("15 came", all, 60, 13);
        came = waitingBy(9, all);
        for (int at = 0; at < 16; at++) {
            Check.same("one of them at " + at, came[at], at < 2 ? 1 : 0);
        }
        // A tenant who sings and rings sings all the same.
        DoorbellChoir sings = Edge.withWaiting(60);
        sings.setWhat(9, 0, Edge.SING_AND_RING, 0, 98, 5);
        Check.same("ring while 60 wait", sings.ring(9), 0);
        dueCounts("one came of it", sings, 60, 1);
        Check.same("it is sung", sings.count(6), 1);
        Check.same("no ring is heard up to the tick 98", sings.pass(97), 0);
        dueCounts("up to the tick 98", sings, 60, 1);
    }

    private static void dueCounts(String when, DoorbellChoir x, int waiting, int lost) {
        Check.same(when + ": wait", x.count(3), waiting);
        Check.same(when + ": lost", x.count(5), lost);
    }

    /** How many wait at each tenant that are by this one and have the shift 5. */
    private static int[] waitingBy(int by, DoorbellChoir x) {
        int[] found = new int[16];
        for (int i = 0; i < 60; i++) {
            if (x.waiting(i, 3) == 5 && x.waiting(i, 2) == by) {
                found[x.waiting(i, 1)]++;
            }
        }
        return found;
    }

    /** 60 wait, and one or two of them are due at the tick 11, at 5 and at 7. */
    private static void whileOneIsDone() {
        for (int action = Edge.RING; action <= Edge.ALL; action++) {
            DoorbellChoir x = Edge.withWaiting(59);
            x.setWhat(15, 0, Edge.RING, 5, 10, 5);
            x.ring(15);
            dueCounts("one of 60 is due at tick 11", x, 60, 0);
            x.setWhat(5, 0, action, 9, 50, 5);
            Check.same("heard at tick 11, action " + action, x.pass(10), 1);
            int come = action == Edge.BESIDE ? 2 : action == Edge.ALL ? 15 : 1;
            dueCounts("there was room for one, action " + action, x, 60, come - 1);
        }
        DoorbellChoir two = Edge.withWaiting(58);
        two.setWhat(14, 0, Edge.RING, 7, 10, 5);
        two.setWhat(15, 0, Edge.RING, 5, 10, 5);
        two.ring(14);
        two.ring(15);
        dueCounts("two of 60 are due at tick 11", two, 60, 0);
        two.setWhat(5, 0, Edge.BESIDE, 0, 50, 0);
        two.setWhat(7, 0, Edge.BESIDE, 0, 50, 0);
        Check.same("heard at tick 11", two.pass(10), 2);
        dueCounts("there was room for one each time", two, 60, 2);
        Check.same("the first of 5 for tick 61", two.waiting(0, 1), 4);
        Check.same("the first of 7 for tick 61", two.waiting(1, 1), 6);
        // Of two at the same tenant the second is lost, and the room for it is free behind it.
        DoorbellChoir same = Edge.withWaiting(58);
        same.setWhat(14, 0, Edge.RING, 5, 10, 5);
        same.setWhat(15, 0, Edge.RING, 5, 10, 5);
        same.ring(14);
        same.ring(15);
        same.setWhat(5, 0, Edge.BESIDE, 0, 50, 0);
        Check.same("heard of both", same.pass(10), 1);
        dueCounts("one came, one had no room, one was not heard", same, 59, 2);
        // A ring with 8 hops has none that come, so none of them is lost.
        DoorbellChoir hops = Edge.withWaiting(59);
        hops.setWhat(15, 0, Edge.RING, 15, 1, 0);
        hops.ring(15);
        hops.pass(7);
        dueCounts("a ring with 8 hops waits", hops, 60, 0);
        hops.setWhat(15, 0, Edge.ALL, 15, 1, 0);
        hops.pass(1);
        dueCounts("a ring with 8 hops was done", hops, 59, 0);
    }

    private static void waiting() {
        Document.promise(13);
        Document.says("- `index`: a ring that waits, in their order, from 0");
        Document.says("- `what`: 0 its tick, 1 the tenant at whom it is, 2 who rings, 3 its shift, "
            + "4 its hops");
        Document.says("Returns this.");
        DoorbellChoir x = Edge.courtyard(16, 9);
        Edge.give(x, 15, Edge.RING, 0, 99, -12);
        Edge.give(x, 0, Edge.RING, 15, 1, 12);
        x.ring(15);
        Edge.waiting("one", x, new int[] {99, 0, 15, -12, 1});
        x.ring(0);
        Edge.waiting("two", x, new int[] {1, 15, 0, 12, 1}, new int[] {99, 0, 15, -12, 1});
        x.pass(1);
        Edge.waiting("the first was done", x, new int[] {99, 0, 15, -12, 1},
            new int[] {100, 0, 15, 0, 2});
        Document.says("Throws `IndexOutOfBoundsException` if there is no such ring, "
            + "or what is not 0 to 4");
        Edge.outside("waiting of two", 0, 1, Edge.NO_SUCH, x, n -> x.waiting(n, 0));
        Edge.outside("what", 0, 4, Edge.NO_SUCH, x, n -> x.waiting(1, n));
        x.pass(1000);
        Check.noSuch("waiting of none", x, () -> x.waiting(0, 0));
        Check.noSuch("waiting of none, -1", x, () -> x.waiting(-1, 4));
        DoorbellChoir full = Edge.withWaiting(60);
        Edge.all("the first of 60", new int[] {99, 0, 1, 0, 1}, what -> full.waiting(0, what));
        Edge.all("the last of 60", new int[] {100, 0, 4, 0, 1}, what -> full.waiting(59, what));
        Edge.outside("waiting of 60", 0, 59, Edge.NO_SUCH, full, n -> full.waiting(n, 4));
        full.ring(15);
        Check.noSuch("the 61st", full, () -> full.waiting(60, 0));
    }

    private static void fits() {
        Document.promise(14);
        Document.says("- `sort`: 0 a visitor, 1 a tenant");
        DoorbellChoir x = Edge.courtyard(3, 2);
        for (int sort = 0; sort < 3; sort++) {
            x.addHabit(sort);
            x.setWhen(sort, 0, 0, 23, sort, 0);
            Check.same("a visitor, sort " + sort, x.fits(sort, 0, 0), sort == 1 ? -1 : 0);
            Check.same("a tenant, sort " + sort, x.fits(sort, 1, 23), sort == 0 ? -1 : 0);
        }
        Document.says("Returns the habit that would fit with the patience that it has now; "
            + "-1 if none would.");
        for (int i = 1; i < 8; i++) {
            x.addHabit(0);
            x.setWhen(0, i, 23, 0, 1, i == 7 ? 2 : 3);
        }
        Check.same("the last of 8 with the patience 2", x.fits(0, 1, 23), 7);
        Check.same("the last of 8 over midnight", x.fits(0, 1, 0), 7);
        Check.same("the last of 8 behind its hours", x.fits(0, 1, 1), -1);
        Check.same("the last of 8 ahead of its hours", x.fits(0, 1, 22), -1);
        x.ring(0);
        Check.same("the last of 8 with the patience 1", x.fits(0, 1, 23), -1);
        x.pass(60);
        Check.same("the last of 8 with the patience 2 again", x.fits(0, 1, 23), 7);
        DoorbellChoir none = Edge.courtyard(1, 0);
        Check.same("without a habit", none.fits(0, 0, 0), -1);
        none.addHabit(0);
        Check.same("without patience", none.fits(0, 0, 0), 0);
        Document.says("Throws `IndexOutOfBoundsException` if there is no such tenant");
        Edge.outside("tenant", 0, 2, Edge.NO_SUCH, x, n -> x.fits(n, 0, 0));
        Document.says("Throws `IllegalArgumentException` if sort is not 0 or 1, "
            + "or hour is not 0 to 23");
        Edge.outside("sort", 0, 1, Edge.BAD_ARGUMENT, x, n -> x.fits(2, n, 0));
        Edge.outside("hour", 0, 23, Edge.BAD_ARGUMENT, x, n -> x.fits(2, 0, n));
        Edge.outside("hour without a habit", 0, 23, Edge.BAD_ARGUMENT, none,
            n -> none.fits(0, 0, n));
    }
}
