import static java.lang.Integer.MAX_VALUE;

/** The edges that the document names of the tenants and their habits: promises 1 to 9. */
final class EdgesOfTenants {
    private EdgesOfTenants() {
    }

    static void run() {
        newObject();
        tenantsInTheTerms();
        moveIn();
        setHour();
        hourInTheTerms();
        habitsInTheTerms();
        addHabit();
        setWhen();
        setWhat();
        dropHabit();
        tenant();
        habit();
    }

    private static void newObject() {
        Document.promise(1);
        Document.says("Creates an empty courtyard at the tick 0.");
        DoorbellChoir x = new DoorbellChoir();
        Edge.all("count", new int[] {0, 0, 0, 0, 0, 0, 0, 0, 60}, what -> x.count(what));
        for (int number = -1; number <= 1; number++) {
            refusesEach(x, number);
        }
        Check.same("best() of an empty courtyard", x.best(), -1);
        Edge.all("sounds at 0", new int[] {0, -1, -1, 0}, what -> x.sounds(0, what));
        Check.same("emptySongs() of an empty courtyard", x.emptySongs(), 0);
        Check.sameDouble("patience() of an empty courtyard", x.patience(), 0.0);
        Check.same("pass(1) in an empty courtyard", x.pass(1), 0);
        Check.same("pass(1000) in an empty courtyard", x.pass(1000), 0);
        Check.same("its tick", x.count(0), 1001);
        Check.same("moveIn behind all this", x.moveIn(0, 0), 0);
    }

    /** A courtyard without tenants has no habit, no ring and no note either. */
    private static void refusesEach(DoorbellChoir x, int number) {
        Check.noSuch("addHabit " + number, x, () -> x.addHabit(number));
        Check.noSuch("setWhen " + number, x, () -> x.setWhen(number, 0, 0, 0, 0, 0));
        Check.noSuch("setWhat " + number, x, () -> x.setWhat(number, 0, 0, 0, 1, 0));
        Check.noSuch("dropHabit " + number, x, () -> x.dropHabit(number, 0));
        Check.noSuch("tenant " + number, x, () -> x.tenant(number, 0));
        Check.noSuch("habit " + number, x, () -> x.habit(number, 0, 0));
        Check.noSuch("ring " + number, x, () -> x.ring(number));
        Check.noSuch("waiting " + number, x, () -> x.waiting(number, 0));
        Check.noSuch("fits " + number, x, () -> x.fits(number, 0, 0));
        Check.noSuch("sung " + number, x, () -> x.sung(number, 0));
        Check.noSuch("through " + number, x, () -> x.through(number, 0));
        Check.noSuch("reach " + number, x, () -> x.reach(number));
        Check.noSuch("hops " + number, x, () -> x.hops(number, number));
    }

    private static void tenantsInTheTerms() {
        Document.terms();
        Document.namesNoEdge("Tenants.");
        Document.says("There are at most 16, numbered from 0 in the order in which they move in; "
            + "the doors are in a row, in the order of these numbers.");
        DoorbellChoir x = new DoorbellChoir();
        for (int i = 0; i < 16; i++) {
            Check.same("the number of one more", x.moveIn(80 - i, 1), i);
            Check.same("how many there are", x.count(2), i + 1);
        }
        Check.badState("the 17th", x, () -> x.moveIn(0, 1));
        for (int i = 0; i < 16; i++) {
            Check.same("the note of " + i, x.tenant(i, 0), 80 - i);
        }
        Document.says("A tenant has a note, 0 to 87, and a greatest patience, 0 to 9; "
            + "its patience is this one, at first.");
        DoorbellChoir ends = new DoorbellChoir();
        ends.moveIn(0, 0);
        ends.moveIn(87, 9);
        ends.pass(7);
        ends.moveIn(87, 0);
        ends.moveIn(0, 9);
        int[][] due = {{0, 0, 0}, {87, 9, 9}, {87, 0, 0}, {0, 9, 9}};
        for (int i = 0; i < due.length; i++) {
            int number = i;
            Edge.all("tenant " + i, due[i], what -> ends.tenant(number, what));
        }
    }

    private static void moveIn() {
        Document.promise(2);
        Document.says("Throws `IllegalArgumentException` if note is not 0 to 87, "
            + "or patience is not 0 to 9");
        DoorbellChoir x = new DoorbellChoir();
        Edge.outside("moveIn, note", 0, 87, Edge.BAD_ARGUMENT, x, n -> x.moveIn(n, 9));
        Edge.outside("moveIn, patience", 0, 9, Edge.BAD_ARGUMENT, x, n -> x.moveIn(87, n));
        Check.badArgument("moveIn(-1, -1)", x, () -> x.moveIn(-1, -1));
        Check.badArgument("moveIn(88, 10)", x, () -> x.moveIn(88, 10));
        Document.says("Lets a tenant move in.");
        Check.same("moveIn(0, 9)", x.moveIn(0, 9), 0);
        Check.same("how many there are", x.count(2), 1);
        Document.says("Returns its number.");
        Check.same("moveIn(87, 0)", x.moveIn(87, 0), 1);
        Check.badArgument("moveIn(88, 0), refused", x, () -> x.moveIn(88, 0));
        Check.same("moveIn(0, 0), behind a refused one", x.moveIn(0, 0), 2);
        Document.says("Throws `IllegalStateException` if there are 16");
        for (int i = 3; i < 15; i++) {
            x.moveIn(i, i % 10);
        }
        Check.same("moveIn with 15", x.moveIn(87, 9), 15);
        Check.badState("moveIn with 16", x, () -> x.moveIn(87, 9));
        Check.badState("moveIn with 16, once more", x, () -> x.moveIn(0, 0));
        Check.same("how many there are then", x.count(2), 16);
        Check.same("the note of the last one", x.tenant(15, 0), 87);
    }

    private static void setHour() {
        Document.promise(3);
        Document.says("Throws `IllegalArgumentException` if ticks is not 5 to 500");
        DoorbellChoir x = new DoorbellChoir();
        Edge.outside("setHour", 5, 500, Edge.BAD_ARGUMENT, x, n -> x.setHour(n));
        Check.badArgument("setHour(0)", x, () -> x.setHour(0));
        Check.badArgument("setHour(-60)", x, () -> x.setHour(-60));
        Document.says("Returns how many it had before.");
        Check.same("setHour(5), the first one", x.setHour(5), 60);
        Check.badArgument("setHour(501), refused", x, () -> x.setHour(501));
        Check.same("setHour(500), behind a refused one", x.setHour(500), 5);
        Check.same("setHour(500), the same again", x.setHour(500), 500);
        Check.same("count(8)", x.count(8), 500);
        Document.says("Tells how many ticks an hour has (from now on).");
        DoorbellChoir later = Edge.courtyard(2, 3);
        later.ring(0);
        later.ring(1);
        later.pass(5);
        later.ring(0);
        Check.same("the hour of 5 by 60", later.count(1), 0);
        later.setHour(5);
        Check.same("the hour of 5 by 5", later.count(1), 1);
        Check.same("patience does not grow by telling", later.tenant(1, 2), 2);
        later.pass(4);
        Check.same("patience at 9", later.tenant(0, 2), 1);
        later.pass(1);
        Check.same("patience of 0 at 10", later.tenant(0, 2), 2);
        Check.same("patience of 1 at 10", later.tenant(1, 2), 3);
        later.setHour(11);
        later.pass(1);
        Check.same("patience at 11, by hours of 11", later.tenant(0, 2), 3);
    }

    private static void hourInTheTerms() {
        Document.terms();
        Document.namesNoEdge("All numbers are whole.");
        Document.says("Time is told in ticks, from 0; an hour has as many ticks as is told "
            + "(60, at first); the hour of a tick is the tick divided by this, cut, and of that "
            + "the remainder of 24.");
        for (int ticks : new int[] {5, 60, 500}) {
            DoorbellChoir x = new DoorbellChoir();
            Check.same("the tick at first", x.count(0), 0);
            Check.same("the hour at first", x.count(1), 0);
            if (ticks != 60) {
                x.setHour(ticks);
            }
            dueHours(x, ticks);
        }
    }

    /** The last tick of each hour, and the first one of the next, over two days. */
    private static void dueHours(DoorbellChoir x, int ticks) {
        for (int hour = 0; hour < 50; hour++) {
            String when = " of hour " + hour + " with " + ticks + " ticks";
            x.pass(ticks - 1);
            Check.same("the last tick" + when, x.count(0), (hour + 1) * ticks - 1);
            Check.same("by the last tick" + when, x.count(1), hour % 24);
            x.pass(1);
            Check.same("behind the last tick" + when, x.count(1), (hour + 1) % 24);
        }
    }

    private static void habitsInTheTerms() {
        Document.terms();
        Document.namesNoEdge("Habits.");
        Document.says("A tenant has at most 8, in an order.");
        DoorbellChoir x = Edge.courtyard(2, 9);
        for (int i = 0; i < 8; i++) {
            Edge.give(x, 1, Edge.SING, 0, i + 1, 0);
        }
        Check.badState("the 9th", x, () -> x.addHabit(1));
        for (int i = 0; i < 8; i++) {
            Check.same("the habit " + i, x.habit(1, i, 6), i + 1);
        }
        Document.says("A habit has: a first and a last hour (0 to 23; if the first one is greater "
            + "than the last one, it holds over midnight); a sort of ring (0 a visitor, 1 a tenant, "
            + "2 both); a least patience, 0 to 9; an action; an aim, a tenant; a delay, 1 to 99; "
            + "and a shift, -12 to 12.");
        int[][] ends = {{0, 0, 0, 0, 0, 0, 1, -12}, {23, 23, 2, 9, 5, 1, 99, 12},
            {23, 0, 1, 9, 0, 1, 1, 12}, {0, 23, 2, 0, 5, 0, 99, -12}};
        for (int[] one : ends) {
            x.setWhen(1, 7, one[0], one[1], one[2], one[3]);
            x.setWhat(1, 7, one[4], one[5], one[6], one[7]);
            Edge.all("a habit at its ends", one, what -> x.habit(1, 7, what));
        }
        hoursOfAHabit(10, 12);
        hoursOfAHabit(7, 7);
        hoursOfAHabit(0, 0);
        hoursOfAHabit(23, 23);
        hoursOfAHabit(0, 23);
        hoursOfAHabit(22, 2);
        hoursOfAHabit(23, 0);
        hoursOfAHabit(1, 0);
        hoursOfAHabit(23, 22);
        hoursOfAHabit(12, 11);
        sortsOfAHabit();
    }

    /** What fits() tells and what a visitor's ring finds, over a day that turns over. */
    private static void hoursOfAHabit(int first, int last) {
        DoorbellChoir x = Edge.courtyard(1, 9);
        x.setHour(5);
        x.addHabit(0);
        x.setWhen(0, 0, first, last, 0, 0);
        boolean[] holds = new boolean[24];
        for (int hour = first; hour != last; hour = (hour + 1) % 24) {
            holds[hour] = true;
        }
        holds[last] = true;
        for (int hour = 0; hour < 26; hour++) {
            String call = " from " + first + " to " + last + " at the hour " + hour;
            boolean due = holds[hour % 24];
            Check.same("fits" + call, x.fits(0, 0, hour % 24), due ? 0 : -1);
            Check.same("ring" + call + ", first tick", x.ring(0), due ? 0 : 1);
            x.pass(4);
            Check.same("ring" + call + ", last tick", x.ring(0), due ? 0 : 1);
            x.pass(1);
        }
    }

    private static void sortsOfAHabit() {
        int[][] due = {{0, -1}, {-1, 0}, {0, 0}};
        for (int sort = 0; sort < 3; sort++) {
            DoorbellChoir x = Edge.courtyard(2, 9);
            Edge.give(x, 0, Edge.RING, 1, 1, 0);
            x.addHabit(1);
            x.setWhen(1, 0, 0, 23, sort, 0);
            Check.same("fits for a visitor, sort " + sort, x.fits(1, 0, 0), due[sort][0]);
            Check.same("fits for a tenant, sort " + sort, x.fits(1, 1, 0), due[sort][1]);
            Check.same("a visitor's ring, sort " + sort, x.ring(1), -due[sort][0]);
            int before = x.habit(1, 0, 8);
            x.ring(0);
            x.pass(1);
            Check.same("a tenant's ring, sort " + sort, x.habit(1, 0, 8) - before,
                due[sort][1] + 1);
        }
    }

    private static void addHabit() {
        Document.promise(4);
        Document.says("Throws `IndexOutOfBoundsException` if there is no such tenant");
        DoorbellChoir x = Edge.courtyard(16, 0);
        Edge.outside("addHabit", 0, 15, Edge.NO_SUCH, x, n -> x.addHabit(n));
        DoorbellChoir two = Edge.courtyard(2, 0);
        Edge.outside("addHabit of two", 0, 1, Edge.NO_SUCH, two, n -> two.addHabit(n));
        Document.says("Returns the number of its habits.");
        Check.same("addHabit of the first tenant", two.addHabit(0), 1);
        Check.same("addHabit of the last tenant", two.addHabit(1), 1);
        Check.same("addHabit again", two.addHabit(1), 2);
        Document.says("Adds a habit, behind the others of the tenant: "
            + "to ignore each ring at all hours.");
        two.setWhat(1, 1, Edge.SING, 0, 5, 5);
        two.addHabit(1);
        Edge.all("the new one", new int[] {0, 23, 2, 0, 1, 1, 1, 0, 0}, w -> two.habit(1, 2, w));
        Check.same("the one ahead of it", two.habit(1, 1, 4), Edge.SING);
        for (int hour = 0; hour < 24; hour++) {
            Check.same("a visitor at the hour " + hour, two.fits(0, 0, hour), 0);
            Check.same("a tenant at the hour " + hour, two.fits(0, 1, hour), 0);
        }
        Check.same("ring at one without patience", two.ring(0), 0);
        Check.same("nothing was sung", two.count(6), 0);
        Document.says("Throws `IllegalStateException` if it has 8");
        for (int tenant = 0; tenant < 16; tenant++) {
            for (int i = 1; i <= 8; i++) {
                Check.same("addHabit of " + tenant, x.addHabit(tenant), i);
            }
        }
        Check.badState("addHabit of the first one with 8", x, () -> x.addHabit(0));
        Check.badState("addHabit of the last one with 8", x, () -> x.addHabit(15));
        Check.same("how many it has then", x.tenant(15, 3), 8);
        x.dropHabit(15, 7);
        Check.same("addHabit with 7 again", x.addHabit(15), 8);
        Check.badState("addHabit with 8 again", x, () -> x.addHabit(15));
    }

    private static void setWhen() {
        Document.promise(5);
        Document.says("- `habit`: the habit, from 0");
        DoorbellChoir x = Edge.courtyard(3, 9);
        for (int i = 0; i < 8; i++) {
            x.addHabit(1);
        }
        x.setWhen(1, 0, 1, 2, 0, 3);
        Edge.all("the first habit", new int[] {1, 2, 0, 3, 1}, what -> x.habit(1, 0, what));
        x.setWhen(1, 7, 4, 5, 1, 6);
        Edge.all("the last habit", new int[] {4, 5, 1, 6, 1}, what -> x.habit(1, 7, what));
        Edge.all("one between them", new int[] {0, 23, 2, 0, 1}, what -> x.habit(1, 6, what));
        Document.says("Throws `IndexOutOfBoundsException` if there is no such tenant or habit");
        Edge.outside("setWhen of eight", 0, 7, Edge.NO_SUCH, x,
            n -> x.setWhen(1, n, 0, 0, 0, 0));
        Edge.outside("setWhen, tenant", 0, 2, Edge.NO_SUCH, x, n -> x.setWhen(n, 0, 0, 0, 0, 0));
        Check.noSuch("setWhen where no habit is", x, () -> x.setWhen(0, 0, 0, 0, 0, 0));
        x.dropHabit(1, 3);
        Check.noSuch("setWhen of one that was dropped", x, () -> x.setWhen(1, 7, 0, 0, 0, 0));
        Document.says("Throws `IllegalArgumentException` if first or last is not 0 to 23, "
            + "sort is not 0 to 2, or patience is not 0 to 9");
        Edge.outside("first", 0, 23, Edge.BAD_ARGUMENT, x, n -> x.setWhen(1, 0, n, 0, 0, 0));
        Edge.outside("last", 0, 23, Edge.BAD_ARGUMENT, x, n -> x.setWhen(1, 0, 0, n, 0, 0));
        Edge.outside("sort", 0, 2, Edge.BAD_ARGUMENT, x, n -> x.setWhen(1, 0, 0, 0, n, 0));
        Edge.outside("patience", 0, 9, Edge.BAD_ARGUMENT, x, n -> x.setWhen(1, 0, 0, 0, 0, n));
        Document.says("Returns the sort before.");
        Check.same("setWhen, all at their least", x.setWhen(1, 2, 0, 0, 0, 0), 2);
        Check.badArgument("setWhen, refused", x, () -> x.setWhen(1, 2, 0, 0, 3, 0));
        Check.same("setWhen, all at their greatest", x.setWhen(1, 2, 23, 23, 2, 9), 0);
        Check.same("setWhen, the first hour greater", x.setWhen(1, 2, 23, 0, 1, 0), 2);
        Check.same("setWhen, the same again", x.setWhen(1, 2, 23, 0, 1, 0), 1);
        Document.says("Tells when a habit fits.");
        Edge.all("what is told", new int[] {23, 0, 1, 0, 1, 1, 1, 0, 0},
            what -> x.habit(1, 2, what));
    }

    private static void setWhat() {
        Document.promise(6);
        Document.says("Throws `IndexOutOfBoundsException` if there is no such tenant or habit, "
            + "or aim is no tenant");
        DoorbellChoir x = Edge.courtyard(3, 9);
        x.addHabit(1);
        x.addHabit(1);
        Edge.outside("tenant", 0, 2, Edge.NO_SUCH, x, n -> x.setWhat(n, 0, 0, 0, 1, 0));
        Edge.outside("habit", 0, 1, Edge.NO_SUCH, x, n -> x.setWhat(1, n, 0, 0, 1, 0));
        Check.noSuch("setWhat where no habit is", x, () -> x.setWhat(0, 0, 0, 0, 1, 0));
        for (int action = Edge.SING; action <= Edge.ALL; action++) {
            int told = action;
            Edge.outside("aim of action " + action, 0, 2, Edge.NO_SUCH, x,
                n -> x.setWhat(1, 0, told, n, 1, 0));
        }
        Check.same("the last tenant as aim", x.setWhat(1, 0, Edge.IGNORE, 2, 1, 0), Edge.IGNORE);
        Check.same("the aim", x.habit(1, 0, 5), 2);
        x.moveIn(0, 0);
        x.setWhat(1, 0, Edge.IGNORE, 3, 1, 0);
        Check.same("one who moved in as aim", x.habit(1, 0, 5), 3);
        Document.says("Throws `IllegalArgumentException` if action is not 0 to 5, "
            + "delay is not 1 to 99, or shift is not -12 to 12");
        Edge.outside("action", 0, 5, Edge.BAD_ARGUMENT, x, n -> x.setWhat(1, 0, n, 0, 1, 0));
        Edge.outside("delay", 1, 99, Edge.BAD_ARGUMENT, x, n -> x.setWhat(1, 0, 0, 0, n, 0));
        Edge.outside("shift", -12, 12, Edge.BAD_ARGUMENT, x, n -> x.setWhat(1, 0, 0, 0, 1, n));
        Document.says("Returns the action before.");
        int before = Edge.IGNORE;
        for (int action = Edge.SING; action <= Edge.ALL; action++) {
            Check.same("setWhat to " + action, x.setWhat(1, 1, action, 0, 99, 12), before);
            Check.badArgument("setWhat, refused", x, () -> x.setWhat(1, 1, 6, 0, 1, 0));
            before = action;
        }
        Check.same("setWhat, all at their least", x.setWhat(1, 1, 0, 0, 1, -12), Edge.ALL);
        Document.says("Tells what a habit does.");
        Edge.all("what is told", new int[] {0, 23, 2, 0, 0, 0, 1, -12, 0},
            what -> x.habit(1, 1, what));
    }

    /** A tenant with 8 habits that are told apart by their delays, the habit 2 was followed. */
    private static DoorbellChoir eightHabits() {
        DoorbellChoir x = Edge.courtyard(2, 9);
        for (int i = 0; i < 8; i++) {
            Edge.give(x, 0, Edge.IGNORE, 1, 10 + i, 0);
            x.setWhen(0, i, 0, 23, i < 2 ? 1 : 2, 0);
        }
        x.ring(0);
        return x;
    }

    private static void dropHabit() {
        Document.promise(7);
        Document.says("Drops a habit; those behind it come nearer.");
        for (int dropped = 0; dropped < 8; dropped++) {
            DoorbellChoir x = eightHabits();
            Check.same("dropHabit " + dropped + " of 8", x.dropHabit(0, dropped), 7);
            for (int i = 0; i < 7; i++) {
                int was = i < dropped ? i : i + 1;
                Check.same("delay of " + i + " without " + dropped, x.habit(0, i, 6), 10 + was);
                Check.same("followed " + i + " without " + dropped, x.habit(0, i, 8),
                    was == 2 ? 1 : 0);
            }
            Check.noSuch("the habit 7 without " + dropped, x, () -> x.habit(0, 7, 0));
        }
        Document.says("Returns the number of habits that are left.");
        DoorbellChoir x = eightHabits();
        for (int left = 7; left >= 0; left--) {
            Check.same("dropHabit, the last one", x.dropHabit(0, left), left);
        }
        Check.same("how many it has then", x.tenant(0, 3), 0);
        Check.same("addHabit behind the last drop", x.addHabit(0), 1);
        Edge.all("it is a new one", new int[] {0, 23, 2, 0, 1, 0, 1, 0, 0},
            what -> x.habit(0, 0, what));
        Check.same("dropHabit, the only one", x.dropHabit(0, 0), 0);
        Document.says("Throws `IndexOutOfBoundsException` if there is no such tenant or habit");
        Check.noSuch("dropHabit of none", x, () -> x.dropHabit(0, 0));
        Check.noSuch("dropHabit of one who never had any", x, () -> x.dropHabit(1, 0));
        DoorbellChoir full = eightHabits();
        Edge.outside("dropHabit of 8", 0, 7, Edge.NO_SUCH, full, n -> full.dropHabit(0, n));
        Edge.outside("dropHabit, tenant", 0, 1, Edge.NO_SUCH, full, n -> full.dropHabit(n, 0));
    }

    private static void tenant() {
        Document.promise(8);
        Document.says("- `what`: 0 its note, 1 its greatest patience, 2 its patience, 3 its habits, "
            + "4 how many rings it has heard, 5 how many notes it has sung");
        DoorbellChoir x = Edge.courtyard(2, 1);
        Edge.all("one who is new", new int[] {40, 1, 1, 0, 0, 0}, what -> x.tenant(0, what));
        Edge.give(x, 0, Edge.SING, 0, 1, 0);
        x.setWhen(0, 0, 0, 23, 2, 1);
        x.ring(0);
        x.ring(0);
        Edge.all("a lost ring is not heard", new int[] {40, 1, 0, 1, 1, 1},
            what -> x.tenant(0, what));
        x.pass(1);
        x.ring(0);
        Document.says("Returns this.");
        Edge.all("heard, but not sung", new int[] {40, 1, 0, 1, 2, 1}, what -> x.tenant(0, what));
        Edge.all("the last tenant", new int[] {41, 1, 1, 0, 0, 0}, what -> x.tenant(1, what));
        Document.says("Throws `IndexOutOfBoundsException` if there is no such tenant, "
            + "or what is not 0 to 5");
        Edge.outside("tenant", 0, 1, Edge.NO_SUCH, x, n -> x.tenant(n, 0));
        Edge.outside("what", 0, 5, Edge.NO_SUCH, x, n -> x.tenant(0, n));
        DoorbellChoir full = Edge.courtyard(16, 9);
        Check.same("the last of 16", full.tenant(15, 0), 55);
        Edge.outside("tenant of 16", 0, 15, Edge.NO_SUCH, full, n -> full.tenant(n, 5));
    }

    private static void habit() {
        Document.promise(9);
        Document.says("- `what`: 0 its first and 1 its last hour, 2 its sort, 3 its least patience, "
            + "4 its action, 5 its aim (at first the tenant itself), 6 its delay (1, at first), "
            + "7 its shift, 8 how often it was followed");
        DoorbellChoir x = Edge.courtyard(16, 9);
        for (int tenant = 0; tenant < 16; tenant += 15) {
            int owner = tenant;
            x.addHabit(owner);
            Edge.all("at first, of " + owner, new int[] {0, 23, 2, 0, 1, owner, 1, 0, 0},
                what -> x.habit(owner, 0, what));
        }
        Document.says("Returns this.");
        x.ring(15);
        x.ring(15);
        Check.same("followed, not by a lost ring", x.habit(15, 0, 8), 1);
        x.setWhen(15, 0, 23, 0, 1, 9);
        x.setWhat(15, 0, Edge.ALL, 0, 99, -12);
        Edge.all("told anew", new int[] {23, 0, 1, 9, 5, 0, 99, -12, 1},
            what -> x.habit(15, 0, what));
        Document.says("Throws `IndexOutOfBoundsException` if there is no such tenant or habit, "
            + "or what is not 0 to 8");
        Edge.outside("tenant", 0, 15, Edge.NO_SUCH, x, n -> x.habit(n, 0, 0));
        Edge.outside("habit of one", 0, 0, Edge.NO_SUCH, x, n -> x.habit(15, n, 0));
        Edge.outside("what", 0, 8, Edge.NO_SUCH, x, n -> x.habit(15, 0, n));
        Check.noSuch("habit of one who has none", x, () -> x.habit(1, 0, 0));
        for (int i = 1; i < 8; i++) {
            x.addHabit(15);
        }
        Check.same("the last of 8", x.habit(15, 7, 5), 15);
        Edge.outside("habit of 8", 0, 7, Edge.NO_SUCH, x, n -> x.habit(15, n, 8));
        Check.noSuch("all too great", x, () -> x.habit(MAX_VALUE, MAX_VALUE, MAX_VALUE));
    }
}
