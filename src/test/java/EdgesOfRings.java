/** The edges that the document names of the rings that are done: the terms, promises 10 to 12. */
final class EdgesOfRings {
    private EdgesOfRings() {
    }

    static void run() {
        actions();
        fitting();
        singing();
        ringing();
        patience();
        growth();
        oneRingATick();
        time();
        ring();
        pass();
        count();
    }

    private static void actions() {
        Document.terms();
        Document.says("The actions: 0 to sing; 1 to ignore; 2 to ring at the aim; 3 to ring at the "
            + "doors beside (one less, then one more, as far as there are such); 4 to sing, and to "
            + "ring at the aim; 5 to ring at all other tenants, in ascending order.");
        int[][][][] due = {
            {{}, {}, {{2, 0, 0, 3, 1}}, {}, {{2, 0, 0, 3, 1}}, {}},
            {{}, {}, {{2, 0, 0, 3, 1}}, {{2, 1, 0, 3, 1}}, {{2, 0, 0, 3, 1}}, {{2, 1, 0, 3, 1}}},
            {{}, {}, {{2, 0, 0, 3, 1}}, {{2, 1, 0, 3, 1}}, {{2, 0, 0, 3, 1}},
                {{2, 1, 0, 3, 1}, {2, 2, 0, 3, 1}}}};
        for (int tenants = 1; tenants <= 3; tenants++) {
            for (int action = Edge.SING; action <= Edge.ALL; action++) {
                DoorbellChoir x = Edge.courtyard(tenants, 9);
                Edge.give(x, 0, action, 0, 2, 3);
                String when = "action " + action + " with " + tenants + " tenants";
                Check.same(when, x.ring(0), 0);
                Edge.waiting(when, x, due[tenants - 1][action]);
                Check.same(when + ": notes", x.count(6),
                    action == Edge.SING || action == Edge.SING_AND_RING ? 1 : 0);
            }
        }
        besideAndAll();
        lastDoorNoMore();
        Document.says("(The aim matters for 2 and 4 alone.)");
        for (int action : new int[] {Edge.SING, Edge.IGNORE, Edge.BESIDE, Edge.ALL}) {
            DoorbellChoir x = Edge.courtyard(3, 9);
            DoorbellChoir other = Edge.courtyard(3, 9);
            Edge.give(x, 1, action, 0, 2, 0);
            Edge.give(other, 1, action, 2, 2, 0);
            x.ring(1);
            other.ring(1);
            Check.same("how many wait", x.count(3), other.count(3));
            for (int i = 0; i < x.count(3); i++) {
                Check.same("at whom with another aim", x.waiting(i, 1), other.waiting(i, 1));
            }
        }
    }

    /** The first and the last door of 16, and those next to them. */
    private static void besideAndAll() {
        int[][] doors = {{1}, {0, 2}, {13, 15}, {14}};
        int[] rung = {0, 1, 14, 15};
        for (int i = 0; i < rung.length; i++) {
            DoorbellChoir x = Edge.courtyard(16, 9);
            Edge.give(x, rung[i], Edge.BESIDE, 0, 1, 0);
            x.ring(rung[i]);
            Check.same("rings beside " + rung[i], x.count(3), doors[i].length);
            for (int k = 0; k < doors[i].length; k++) {
                Check.same("the door beside " + rung[i], x.waiting(k, 1), doors[i][k]);
            }
            x.setWhat(rung[i], 0, Edge.ALL, rung[i], 1, 0);
            x.pass(1);
            x.pass(1);
            x.ring(rung[i]);
            Check.same("rings by " + rung[i] + " at all others", x.count(3), 15);
            for (int k = 0; k < 15; k++) {
                Check.same("the other " + k, x.waiting(k, 1), k < rung[i] ? k : k + 1);
            }
        }
    }

    /** When one moves in, there is a door beside the one that was the last. */
    private static void lastDoorNoMore() {
        DoorbellChoir x = Edge.courtyard(2, 9);
        Edge.give(x, 1, Edge.BESIDE, 0, 1, 0);
        x.ring(1);
        Edge.waiting("beside the last door", x, new int[] {1, 0, 1, 0, 1});
        x.moveIn(0, 0);
        x.pass(1);
        x.ring(1);
        Edge.waiting("beside the same door, when one has moved in", x, new int[] {2, 0, 1, 0, 1},
            new int[] {2, 2, 1, 0, 1});
    }

    private static void fitting() {
        Document.terms();
        Document.namesNoEdge("Rings.");
        Document.says("A ring is by a visitor, or by a tenant, at a tenant, at a tick; it has a "
            + "shift, and a number of hops, both 0 for a visitor's.");
        DoorbellChoir x = Edge.courtyard(2, 9);
        Edge.give(x, 1, Edge.SING_AND_RING, 0, 2, -7);
        x.ring(1);
        Edge.all("the note of a visitor's ring", new int[] {0, 2, 41, 1, 0, -1},
            what -> x.sung(0, what));
        Edge.waiting("the ring of a visitor's ring", x, new int[] {2, 0, 1, -7, 1});
        Document.says("What it does when its tick has come: the first habit of the tenant is looked "
            + "for that fits: the hour of the tick is from its first to its last one, the sort is "
            + "that of the ring, and the patience of the tenant is at least its least one.");
        firstOfEight();
        hourOfTheTick();
        leastPatience();
        Document.says("If there is none, or it is to ignore, the ring is ignored.");
        for (int habits = 0; habits < 2; habits++) {
            DoorbellChoir ignores = Edge.courtyard(1, 9);
            if (habits > 0) {
                ignores.addHabit(0);
            }
            Check.same("with habits: " + habits, ignores.ring(0), 1 - habits);
            Edge.all("counts with habits: " + habits, new int[] {0, 0, 1, 0, 1, 0, 0, 0, 60},
                what -> ignores.count(what));
            Check.same("patience with habits: " + habits, ignores.tenant(0, 2), 8);
        }
    }

    /** Of eight habits just one is followed: the first one that fits, be it the last of all. */
    private static void firstOfEight() {
        for (int fits = 0; fits <= 8; fits++) {
            DoorbellChoir x = Edge.courtyard(1, 9);
            for (int i = 0; i < 8; i++) {
                Edge.give(x, 0, Edge.SING, 0, i + 1, 0);
                x.setWhen(0, i, 0, 23, i < fits ? 1 : 0, 0);
            }
            Check.same("ring where habit " + fits + " is the first", x.ring(0), fits < 8 ? 0 : 1);
            for (int i = 0; i < 8; i++) {
                Check.same("habit " + i + " where " + fits + " is the first", x.habit(0, i, 8),
                    i == fits ? 1 : 0);
            }
        }
    }

    /** The hour is that in which the ring is done, not that in which it came to wait. */
    private static void hourOfTheTick() {
        for (int delay = 4; delay <= 10; delay++) {
            DoorbellChoir x = Edge.courtyard(2, 9);
            x.setHour(5);
            Edge.give(x, 0, Edge.RING, 1, delay, 0);
            x.addHabit(1);
            x.setWhen(1, 0, 1, 1, 1, 0);
            x.ring(0);
            x.pass(delay);
            Check.same("followed at " + delay, x.habit(1, 0, 8), delay >= 5 && delay < 10 ? 1 : 0);
        }
    }

    private static void leastPatience() {
        for (int least = 0; least <= 9; least++) {
            for (int has = 0; has <= 9; has++) {
                DoorbellChoir x = Edge.courtyard(1, has);
                x.addHabit(0);
                x.setWhen(0, 0, 0, 23, 2, least);
                boolean due = has >= least;
                String call = " with patience " + has + ", least " + least;
                Check.same("fits" + call, x.fits(0, 1, 0), due ? 0 : -1);
                Check.same("ring" + call, x.ring(0), due ? 0 : 1);
            }
        }
    }

    private static void singing() {
        Document.terms();
        Document.says("Singing: the note of the tenant and the shift of the ring are sung, all by "
            + "the remainder of 88 (0 to 87), from this tick on, for as many ticks as the delay of "
            + "the habit tells.");
        int[][] noteShiftDue = {{87, 0, 87}, {0, 0, 0}, {87, 1, 0}, {86, 1, 87}, {0, -1, 87},
            {1, -1, 0}, {76, 12, 0}, {75, 12, 87}, {12, -12, 0}, {11, -12, 87}};
        for (int[] row : noteShiftDue) {
            DoorbellChoir x = new DoorbellChoir();
            x.moveIn(row[0], 9);
            Edge.give(x, 0, Edge.SING_AND_RING, 0, 1, row[1]);
            x.ring(0);
            Check.same("a visitor's shift is 0", x.sung(0, 2), row[0]);
            x.pass(1);
            Check.same("the note " + row[0] + " and " + row[1], x.sung(1, 2), row[2]);
        }
        // The shift of a ring with 8 hops goes up to 96, so that it is more than 88 either way.
        Check.same("87 and 96", noteBehindEightHops(87, 12), 7);
        Check.same("80 and 96", noteBehindEightHops(80, 12), 0);
        Check.same("79 and 96", noteBehindEightHops(79, 12), 87);
        Check.same("0 and 88", noteBehindEightHops(0, 11), 0);
        Check.same("0 less 88", noteBehindEightHops(0, -11), 0);
        Check.same("0 less 96", noteBehindEightHops(0, -12), 80);
        Check.same("8 less 96", noteBehindEightHops(8, -12), 0);
        Check.same("7 less 96", noteBehindEightHops(7, -12), 87);
        for (int delay = 1; delay <= 99; delay += 98) {
            DoorbellChoir x = Edge.courtyard(1, 9);
            Edge.give(x, 0, Edge.SING, 0, delay, 12);
            x.pass(3);
            x.ring(0);
            Edge.all("sung for " + delay, new int[] {3, delay, 40}, what -> x.sung(0, what));
        }
    }

    private static int noteBehindEightHops(int note, int shift) {
        DoorbellChoir x = new DoorbellChoir();
        x.moveIn(note, 0);
        Edge.give(x, 0, Edge.SING_AND_RING, 0, 1, shift);
        x.ring(0);
        x.pass(8);
        return x.sung(8, 2);
    }

    private static void ringing() {
        Document.terms();
        Document.says("Ringing: the new rings are by this tenant, at the tick and the delay; their "
            + "shift is that of the ring and that of the habit, their hops one more; but a ring "
            + "with 8 hops rings no more (the habit is followed all the same; it sings, if it is to "
            + "sing).");
        for (int shift = -12; shift <= 12; shift += 24) {
            for (int delay = 1; delay <= 99; delay += 98) {
                DoorbellChoir x = Edge.courtyard(2, 9);
                Edge.give(x, 1, Edge.RING, 1, delay, shift);
                x.pass(1);
                x.ring(1);
                for (int hops = 1; hops <= 8; hops++) {
                    Edge.waiting("hop " + hops, x,
                        new int[] {1 + hops * delay, 1, 1, hops * shift, hops});
                    Check.same("heard at the hop " + hops, x.pass(delay), 1);
                }
                Edge.waiting("behind the last hop", x);
            }
        }
        for (int action = Edge.SING; action <= Edge.ALL; action++) {
            lastHop(action);
        }
    }

    /** What a ring with 7 and one with 8 hops does, when the tenant has this action. */
    private static void lastHop(int action) {
        for (int hops = 7; hops <= 8; hops++) {
            DoorbellChoir x = Edge.courtyard(3, 9);
            Edge.give(x, 1, Edge.RING, 1, 1, 1);
            x.ring(1);
            x.pass(hops - 1);
            x.setWhat(1, 0, action, 2, 5, 1);
            int followed = x.habit(1, 0, 8);
            x.pass(1);
            String when = "action " + action + " of a ring with hops " + hops;
            boolean sings = action == Edge.SING || action == Edge.SING_AND_RING;
            boolean rings = action >= Edge.RING && hops < 8;
            boolean atTwo = action == Edge.BESIDE || action == Edge.ALL;
            Check.same(when + ": followed", x.habit(1, 0, 8), followed + 1);
            Check.same(when + ": sung", x.count(6), sings ? 1 : 0);
            Check.same(when + ": wait", x.count(3), rings ? atTwo ? 2 : 1 : 0);
            Check.same(when + ": lost", x.count(5), 0);
            Check.same(when + ": most hops", x.count(7), hops);
        }
    }

    private static void patience() {
        Document.terms();
        Document.says("Whatever came of it, the patience of the tenant is 1 less then, "
            + "if it is not 0.");
        for (int action = Edge.SING; action <= Edge.ALL; action++) {
            DoorbellChoir x = Edge.courtyard(2, 1);
            Edge.give(x, 0, action, 1, 99, 0);
            x.ring(0);
            Check.same("patience 1 behind action " + action, x.tenant(0, 2), 0);
            x.pass(1);
            x.ring(0);
            Check.same("patience 0 behind action " + action, x.tenant(0, 2), 0);
            Check.same("patience of the other one", x.tenant(1, 2), 1);
        }
        DoorbellChoir none = Edge.courtyard(2, 9);
        none.addHabit(0);
        none.setWhen(0, 0, 0, 23, 2, 1);
        for (int left = 8; left >= -1; left--) {
            Check.same("ring with patience " + (left + 1), none.ring(0), left < 0 ? 1 : 0);
            Check.same("patience behind it", none.tenant(0, 2), Math.max(0, left));
            none.pass(1);
        }
    }

    private static void growth() {
        Document.terms();
        Document.says("At the first tick of each hour, ahead of all rings, the patience of all "
            + "tenants who have less than their greatest one is 1 more.");
        DoorbellChoir x = new DoorbellChoir();
        int[] greatest = {9, 9, 2, 1, 0};
        for (int one : greatest) {
            x.moveIn(0, one);
        }
        for (int i = 0; i < 2; i++) {
            for (int tenant = 1; tenant < greatest.length; tenant++) {
                x.ring(tenant);
            }
            x.pass(1);
        }
        duePatience("of tick 2", x, 9, 7, 0, 0, 0);
        x.pass(57);
        duePatience("of tick 59", x, 9, 7, 0, 0, 0);
        x.pass(1);
        duePatience("of tick 60", x, 9, 8, 1, 1, 0);
        x.pass(59);
        duePatience("of tick 119", x, 9, 8, 1, 1, 0);
        x.pass(1);
        duePatience("of tick 120", x, 9, 9, 2, 1, 0);
        x.pass(60);
        duePatience("of tick 180", x, 9, 9, 2, 1, 0);
        aheadOfAllRings();
        manyHours();
    }

    private static void duePatience(String call, DoorbellChoir x, int... due) {
        for (int tenant = 0; tenant < due.length; tenant++) {
            Check.same("patience " + call + ", tenant " + tenant, x.tenant(tenant, 2), due[tenant]);
        }
    }

    /** A habit with the least patience 1 fits at the first tick of an hour, not at the last one. */
    private static void aheadOfAllRings() {
        for (int delay = 58; delay <= 60; delay++) {
            DoorbellChoir x = Edge.courtyard(2, 1);
            Edge.give(x, 0, Edge.RING, 1, delay, 0);
            x.addHabit(1);
            x.setWhen(1, 0, 0, 23, 2, 1);
            x.ring(1);
            x.pass(1);
            x.ring(0);
            x.pass(delay);
            Check.same("followed at " + (delay + 1), x.habit(1, 0, 8), delay < 59 ? 1 : 2);
            Check.same("patience behind it", x.tenant(1, 2), 0);
        }
    }

    /** Patience grows by 1 at each of many hours, and no more when it is the greatest one. */
    private static void manyHours() {
        DoorbellChoir x = Edge.courtyard(1, 9);
        for (int i = 0; i < 9; i++) {
            x.ring(0);
            x.pass(1);
        }
        Check.same("patience behind 9 rings", x.tenant(0, 2), 0);
        x.pass(51);
        Check.same("patience an hour later", x.tenant(0, 2), 1);
        x.pass(60 * 7);
        Check.same("patience 8 hours later", x.tenant(0, 2), 8);
        x.setHour(5);
        x.pass(1000);
        Check.same("patience 200 hours later", x.tenant(0, 2), 9);
    }

    private static void oneRingATick() {
        Document.terms();
        Document.says("A tenant hears one ring a tick: the others at the same tick are lost "
            + "(nothing comes of them, also not for the patience).");
        DoorbellChoir x = Edge.courtyard(16, 9);
        Edge.give(x, 0, Edge.SING_AND_RING, 1, 3, 0);
        for (int i = 1; i < 16; i++) {
            Edge.give(x, i, Edge.RING, 0, 2, 0);
            x.ring(i);
        }
        Check.same("15 rings at one tick: heard", x.pass(2), 1);
        Edge.all("counts", new int[] {2, 0, 16, 1, 16, 14, 1, 1, 60}, what -> x.count(what));
        Edge.all("who is rung at", new int[] {40, 9, 8, 1, 1, 1}, what -> x.tenant(0, what));
        Check.same("followed", x.habit(0, 0, 8), 1);
        Check.same("the first one was heard", x.sung(0, 5), 1);
        x.ring(0);
        Check.same("a visitor's is lost, too", x.count(5), 15);
        Edge.all("and nothing comes of it", new int[] {40, 9, 8, 1, 1, 1},
            what -> x.tenant(0, what));
        x.pass(1);
        Check.same("the next tick", x.ring(0), 0);
        lostHopsDoNotCount();
    }

    /** A ring with 2 hops comes at one who has heard one with 1 hop at this tick. */
    private static void lostHopsDoNotCount() {
        DoorbellChoir x = Edge.courtyard(4, 9);
        Edge.give(x, 0, Edge.RING, 3, 4, 0);
        Edge.give(x, 1, Edge.RING, 2, 2, 0);
        Edge.give(x, 2, Edge.RING, 3, 2, 0);
        x.ring(0);
        x.ring(1);
        x.pass(4);
        Check.same("one was lost", x.count(5), 1);
        Check.same("the most hops of one that was heard", x.count(7), 1);
    }

    private static void time() {
        Document.terms();
        Document.says("Time goes by tick by tick: when a tick comes, patience grows (if it begins "
            + "an hour), then all rings of this tick are done, one after the other.");
        DoorbellChoir x = ringsAllAround();
        DoorbellChoir slow = ringsAllAround();
        int heard = 0;
        for (int i = 0; i < 9; i++) {
            heard += slow.pass(1);
        }
        Check.same("heard in 9 ticks at once", x.pass(9), 24);
        Check.same("heard in 9 ticks, one by one", heard, 24);
        Check.same("the same came of both", x.digest(), slow.digest());
        sixtyAtOneTick();
        Document.says("(A delay is at least 1, so that none comes to wait for the same tick.)");
        DoorbellChoir one = Edge.courtyard(2, 9);
        Edge.give(one, 0, Edge.ALL, 0, 1, 0);
        Edge.give(one, 1, Edge.ALL, 0, 1, 0);
        one.ring(0);
        Edge.waiting("behind a ring", one, new int[] {1, 1, 0, 0, 1});
        Check.same("heard at tick 1", one.pass(1), 1);
        Edge.waiting("behind tick 1", one, new int[] {2, 0, 1, 0, 2});
        Document.says("A visitor rings at the tick that is now, and it is done at once, as one of "
            + "this tick: so it is lost, if this tenant has heard one at this tick.");
        Check.same("a visitor at one who heard at tick 1", one.ring(1), 2);
        Check.same("a visitor at one who did not", one.ring(0), 0);
        Edge.waiting("behind them", one, new int[] {2, 0, 1, 0, 2}, new int[] {2, 1, 0, 0, 1});
        Check.same("the tick stays", one.count(0), 1);
        Check.same("heard at tick 2", one.pass(1), 2);
        Check.same("a visitor at tick 2, at 0", one.ring(0), 2);
        Check.same("a visitor at tick 2, at 1", one.ring(1), 2);
        // A lost ring was not heard: it does not keep the next tick's from being heard.
        one.pass(1);
        Check.same("both heard at tick 3", one.tenant(0, 4), 4);
        DoorbellChoir hour = Edge.courtyard(1, 2);
        hour.ring(0);
        hour.pass(60);
        Check.same("patience at tick 60", hour.tenant(0, 2), 2);
        hour.ring(0);
        Check.same("a visitor at the first tick of an hour", hour.tenant(0, 2), 1);
        hour.ring(0);
        Check.same("a lost one at it", hour.tenant(0, 2), 1);
    }

    /** Three rings under way, so that at each tick each of the three tenants is rung at once. */
    private static DoorbellChoir ringsAllAround() {
        DoorbellChoir x = Edge.courtyard(3, 9);
        for (int i = 0; i < 3; i++) {
            Edge.give(x, i, Edge.RING, (i + 1) % 3, 1, 0);
            x.ring(i);
        }
        return x;
    }

    /** As many as can wait, all for the same tick: all are done, none is left for the next one. */
    private static void sixtyAtOneTick() {
        DoorbellChoir x = Edge.courtyard(16, 9);
        for (int i = 0; i < 4; i++) {
            Edge.give(x, i, Edge.ALL, 0, 99, 0);
            x.ring(i);
            x.setWhat(i, 0, Edge.IGNORE, 0, 1, 0);
        }
        Check.same("how many wait for tick 99", x.count(3), 60);
        Check.same("heard ahead of it", x.pass(98), 0);
        Check.same("heard at it", x.pass(1), 16);
        Edge.all("counts behind it", new int[] {99, 1, 16, 0, 20, 44, 0, 1, 60}, w -> x.count(w));
        Check.same("heard at the next tick", x.pass(1), 0);
    }

    private static void ring() {
        Document.promise(10);
        Document.says("Lets a visitor ring, now.");
        DoorbellChoir x = Edge.courtyard(16, 1);
        Check.same("at tick 0", x.ring(0), 1);
        Check.same("the tick is the same then", x.count(0), 0);
        Document.says("Returns 0 if it was heard and a habit was followed (to ignore it, too), "
            + "1 if it was heard, and no habit fits, 2 if it was lost.");
        for (int action = Edge.SING; action <= Edge.ALL; action++) {
            DoorbellChoir one = Edge.courtyard(1, 9);
            Check.same("without a habit", one.ring(0), 1);
            Check.same("without a habit, lost", one.ring(0), 2);
            one.pass(1);
            Edge.give(one, 0, action, 0, 99, 0);
            Check.same("action " + action, one.ring(0), 0);
            int waiting = one.count(3);
            int notes = one.count(6);
            Check.same("action " + action + ", lost", one.ring(0), 2);
            Check.same("action " + action + ", waiting", one.count(3), waiting);
            Check.same("action " + action + ", notes", one.count(6), notes);
            Check.same("action " + action + ", both lost ones", one.count(5), 2);
            one.pass(1);
            one.setWhen(0, 0, 1, 23, 2, 0);
            Check.same("action " + action + " an hour too early", one.ring(0), 1);
        }
        DoorbellChoir full = Edge.withWaiting(60);
        Check.same("a visitor while 60 wait", full.ring(15), 0);
        Check.same("still 60 wait", full.count(3), 60);
        Document.says("Throws `IndexOutOfBoundsException` if there is no such tenant");
        Edge.outside("ring", 0, 15, Edge.NO_SUCH, x, n -> x.ring(n));
        Check.same("the last tenant", x.ring(15), 1);
        DoorbellChoir two = Edge.courtyard(2, 9);
        Edge.outside("ring at two", 0, 1, Edge.NO_SUCH, two, n -> two.ring(n));
        two.moveIn(0, 0);
        Check.same("ring at one who moved in", two.ring(2), 1);
        Check.same("and again", two.ring(2), 2);
    }

    private static void pass() {
        Document.promise(11);
        Document.says("Throws `IllegalArgumentException` if ticks is not 1 to 1000");
        DoorbellChoir x = Edge.courtyard(2, 9);
        Edge.outside("pass", 1, 1000, Edge.BAD_ARGUMENT, x, n -> x.pass(n));
        Check.badArgument("pass(-1)", x, () -> x.pass(-1));
        Document.says("Lets time go by.");
        x.pass(1);
        Check.same("the tick behind pass(1)", x.count(0), 1);
        x.pass(1000);
        Check.same("the tick behind pass(1000)", x.count(0), 1001);
        Document.says("Returns how many rings were heard in them.");
        for (int delay = 1; delay <= 99; delay += 49) {
            DoorbellChoir one = Edge.courtyard(3, 9);
            Edge.give(one, 0, Edge.RING, 2, delay, 0);
            Edge.give(one, 1, Edge.RING, 2, delay, 0);
            one.ring(0);
            one.ring(1);
            if (delay > 1) {
                Check.same("ahead of the tick", one.pass(delay - 1), 0);
            }
            Check.same("at the tick, without the lost one", one.pass(1), 1);
            one.ring(0);
            Check.same("without a visitor's ring, up to the tick", one.pass(delay), 1);
            Check.same("behind it", one.pass(1000), 0);
        }
        DoorbellChoir busy = Edge.withWaiting(60);
        Check.same("up to the tick ahead of all", busy.pass(97), 0);
        Check.same("at the tick 99", busy.pass(1), 16);
    }

    private static void count() {
        Document.promise(12);
        Document.says("- `what`: 0 the tick that is now, 1 its hour, 2 tenants, 3 rings that wait, "
            + "4 rings that were heard, 5 that were lost, 6 notes that were sung since the songs "
            + "were emptied, 7 the most hops of a ring that was heard, 8 the ticks of an hour");
        DoorbellChoir x = Edge.courtyard(16, 9);
        Edge.give(x, 0, Edge.SING_AND_RING, 0, 90, 0);
        x.setHour(500);
        x.ring(0);
        x.ring(0);
        Edge.all("by a visitor", new int[] {0, 0, 16, 1, 1, 1, 1, 0, 500}, what -> x.count(what));
        x.pass(719);
        Edge.all("ahead of the last hop", new int[] {719, 1, 16, 1, 8, 1, 8, 7, 500},
            what -> x.count(what));
        x.pass(1);
        Edge.all("behind the last hop", new int[] {720, 1, 16, 0, 9, 1, 9, 8, 500},
            what -> x.count(what));
        x.emptySongs();
        x.ring(0);
        x.ring(1);
        Document.says("Returns this.");
        Edge.all("behind an emptying", new int[] {720, 1, 16, 0, 10, 2, 0, 8, 500},
            what -> x.count(what));
        Edge.all("60 wait", new int[] {1, 0, 16, 60, 18, 0, 0, 0, 60},
            what -> Edge.withWaiting(60).count(what));
        Edge.all("201 were sung", new int[] {12, 0, 16, 0, 201, 0, 201, 0, 60},
            what -> Edge.withNotes(201).count(what));
        Document.says("Throws `IndexOutOfBoundsException` if what is not 0 to 8");
        Edge.outside("count", 0, 8, Edge.NO_SUCH, x, n -> x.count(n));
        DoorbellChoir empty = new DoorbellChoir();
        Edge.outside("count of an empty one", 0, 8, Edge.NO_SUCH, empty, n -> empty.count(n));
        Check.same("the last count of an empty one", empty.count(8), 60);
    }
}
