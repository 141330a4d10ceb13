import static java.lang.Integer.MAX_VALUE;

/** The edges that the document names of the songs: promises 15 to 19. */
final class EdgesOfSongs {
    private EdgesOfSongs() {
    }

    static void run() {
        kept();
        sounding();
        harmony();
        sung();
        through();
        sounds();
        best();
        emptySongs();
    }

    /** Tenants who sing these notes for as many ticks as is told. */
    private static DoorbellChoir singers(int length, int... notes) {
        DoorbellChoir x = new DoorbellChoir();
        for (int i = 0; i < notes.length; i++) {
            x.moveIn(notes[i], 9);
            Edge.give(x, i, Edge.SING, i, length, 0);
        }
        return x;
    }

    private static void kept() {
        Document.terms();
        Document.namesNoEdge("Songs.");
        Document.says("Each note that was sung is kept (the first 200 since the courtyard was "
            + "emptied of songs; all are counted): when it began, how long it lasts, its note, who "
            + "sang it, and by which ring.");
        DoorbellChoir x = Edge.withNotes(199);
        x.ring(7);
        Edge.all("the 200th", new int[] {12, 99, 47, 7, 0, -1}, what -> x.sung(199, what));
        Check.same("counted with it", x.count(6), 200);
        Check.same("the way of its ring", x.through(199, 0), 7);
        x.ring(8);
        Check.noSuch("the 201st", x, () -> x.sung(200, 0));
        Check.noSuch("the way of the 201st", x, () -> x.through(200, 0));
        Check.same("counted with the 201st", x.count(6), 201);
        Check.same("by the tenant, too", x.tenant(8, 5), 13);
        Edge.all("the first one stays", new int[] {0, 99, 40, 0, 0, -1}, what -> x.sung(0, what));
        Edge.all("the 200th stays", new int[] {12, 99, 47, 7, 0, -1}, what -> x.sung(199, what));
        since();
    }

    /** The first 200 since the courtyard was emptied are others, but as many. */
    private static void since() {
        DoorbellChoir x = Edge.withNotes(201);
        Check.same("how many were kept", x.emptySongs(), 200);
        for (int i = 0; i < 201; i++) {
            if (i % 16 == 0) {
                x.pass(1);
            }
            x.ring(i % 16);
        }
        Check.same("counted since it was emptied", x.count(6), 201);
        Edge.all("the 200th since then", new int[] {25, 99, 47, 7, 0, -1}, w -> x.sung(199, w));
        Check.noSuch("the 201st since then", x, () -> x.sung(200, 0));
    }

    private static void sounding() {
        Document.terms();
        Document.says("It sounds at the ticks from its beginning on, as many as it lasts.");
        for (int length : new int[] {1, 2, 99}) {
            for (int begin = 0; begin <= 7; begin += 7) {
                DoorbellChoir x = singers(length, 50);
                if (begin > 0) {
                    x.pass(begin);
                    Check.same("ahead of its beginning", x.sounds(begin - 1, 0), 0);
                }
                x.ring(0);
                Check.same("at its beginning", x.sounds(begin, 0), 1);
                Check.same("at its last tick", x.sounds(begin + length - 1, 0), 1);
                Check.same("behind its last tick", x.sounds(begin + length, 0), 0);
                if (begin > 0) {
                    Check.same("still not ahead of it", x.sounds(begin - 1, 0), 0);
                }
            }
        }
        Document.namesNoEdge("Together.");
        Document.says("At a tick the sounding notes are those that are kept and sound then.");
        DoorbellChoir x = Edge.withNotes(200);
        Check.same("all 200 sound", x.sounds(12, 0), 200);
        x.setWhat(8, 0, Edge.SING_AND_RING, 9, 1, 0);
        x.setWhat(9, 0, Edge.SING, 9, 98, 12);
        int harmony = x.sounds(12, 3);
        x.ring(8);
        x.ring(9);
        Edge.all("those behind the 200th do not", new int[] {200, 40, 55, harmony},
            what -> x.sounds(12, what));
        Check.same("the first 16 at their last tick", x.sounds(98, 0), 200);
        Check.same("and behind it", x.sounds(99, 0), 184);
        x.emptySongs();
        Edge.all("none that was emptied", new int[] {0, -1, -1, 0}, what -> x.sounds(12, what));
    }

    private static void harmony() {
        Document.terms();
        Document.says("For each pair of them the interval is the difference of the notes, without "
            + "its sign, by the remainder of 12.");
        int[][] pairDue = {{0, 0, 1}, {87, 87, 1}, {0, 12, 1}, {0, 84, 1}, {0, 87, 1}, {0, 11, -1},
            {0, 1, -1}, {0, 13, -1}, {0, 83, -1}, {0, 85, -1}, {0, 86, -1}, {11, 12, -1},
            {11, 23, 1}, {12, 0, 1}, {87, 0, 1}, {86, 0, -1}, {11, 0, -1}};
        for (int[] one : pairDue) {
            dueHarmony(one[2], one[0], one[1]);
        }
        Document.says("It is good if it is 0, 3, 4, 5, 7, 8 or 9.");
        int[] due = {1, -1, -1, 1, 1, 1, -1, 1, 1, 1, -1, -1};
        for (int interval = 0; interval < 88; interval++) {
            dueHarmony(due[interval % 12], 0, interval);
            dueHarmony(due[interval % 12], 87, 87 - interval);
        }
        Document.says("The harmony is the number of good pairs less the number of the others.");
        dueHarmony(0);
        dueHarmony(0, 87);
        dueHarmony(3, 0, 4, 7);
        dueHarmony(-3, 0, 1, 2);
        dueHarmony(-1, 0, 6, 7);
        dueHarmony(1, 0, 6, 3);
        dueHarmony(120, 5, 5, 5, 5, 5, 5, 5, 5, 5, 5, 5, 5, 5, 5, 5, 5);
        dueHarmony(0, 0, 1, 4, 6);
        DoorbellChoir many = singers(99, 0, 1, 0, 1, 0, 1, 0, 1, 0, 1, 0, 1, 0, 1, 0, 1);
        for (int i = 0; i < 200; i++) {
            many.ring(i % 16);
            if (i % 16 == 15) {
                many.pass(1);
            }
        }
        // 100 of each note: 2 * 100 * 99 / 2 good pairs, and 100 * 100 others.
        Check.same("harmony of 200 notes", many.sounds(12, 3), 9900 - 10000);
    }

    private static void dueHarmony(int due, int... notes) {
        DoorbellChoir x = singers(1, notes);
        for (int i = 0; i < notes.length; i++) {
            x.ring(i);
        }
        Check.same("harmony of " + java.util.Arrays.toString(notes), x.sounds(0, 3), due);
    }

    /** A ring goes from 0 to 1 and comes back, each time a tick later, up to 8 hops. */
    private static DoorbellChoir toAndFro() {
        DoorbellChoir x = Edge.courtyard(2, 9);
        Edge.give(x, 0, Edge.SING_AND_RING, 1, 1, 1);
        Edge.give(x, 1, Edge.SING_AND_RING, 0, 1, 1);
        x.ring(0);
        return x;
    }

    private static void sung() {
        Document.promise(15);
        Document.says("- `index`: a note that is kept, in the order in which they were sung, from 0");
        Document.says("- `what`: 0 its tick, 1 how long it lasts, 2 the note, 3 who sang it, "
            + "4 the hops of its ring, 5 who rang, -1 for a visitor");
        Document.says("Returns this.");
        DoorbellChoir x = toAndFro();
        x.pass(8);
        for (int i = 0; i <= 8; i++) {
            int index = i;
            int[] due = {i, 1, 40 + i % 2 + i, i % 2, i, i == 0 ? -1 : (i + 1) % 2};
            Edge.all("the note " + i, due, what -> x.sung(index, what));
        }
        Document.says("Throws `IndexOutOfBoundsException` if there is no such note, "
            + "or what is not 0 to 5");
        Edge.outside("sung of nine", 0, 8, Edge.NO_SUCH, x, n -> x.sung(n, 0));
        Edge.outside("what", 0, 5, Edge.NO_SUCH, x, n -> x.sung(8, n));
        DoorbellChoir none = Edge.courtyard(1, 9);
        none.ring(0);
        Check.noSuch("sung of none", none, () -> none.sung(0, 0));
        Check.noSuch("sung of none, -1", none, () -> none.sung(-1, 5));
        DoorbellChoir full = Edge.withNotes(201);
        Check.same("the last of 200", full.sung(199, 3), 7);
        Edge.outside("sung of 200", 0, 199, Edge.NO_SUCH, full, n -> full.sung(n, 5));
        Check.noSuch("what of the last of 200", full, () -> full.sung(199, 6));
    }

    private static void through() {
        Document.promise(16);
        Document.says("Tells through whom the ring of a note came.");
        Document.says("- `hop`: 0 for the tenant at whom the visitor rang, 1 for the one at whom "
            + "this one rang, and so on; as many as the ring has hops for who sang it");
        Document.says("Returns this tenant.");
        Document.says("Throws `IndexOutOfBoundsException` if there is no such note, "
            + "or hop is not 0 to the hops of its ring");
        DoorbellChoir x = toAndFro();
        x.pass(8);
        for (int i = 0; i <= 8; i++) {
            int index = i;
            for (int hop = 0; hop <= i; hop++) {
                Check.same("through(" + i + ", " + hop + ")", x.through(i, hop), hop % 2);
            }
            Edge.outside("hop of the note " + i, 0, i, Edge.NO_SUCH, x, n -> x.through(index, n));
        }
        Edge.outside("through of nine", 0, 8, Edge.NO_SUCH, x, n -> x.through(n, 0));
        DoorbellChoir self = Edge.courtyard(16, 9);
        Edge.give(self, 15, Edge.SING_AND_RING, 15, 99, 0);
        self.ring(15);
        self.pass(99 * 8);
        for (int hop = 0; hop <= 8; hop++) {
            Check.same("the last tenant all the way", self.through(8, hop), 15);
        }
        Check.noSuch("the hop 9", self, () -> self.through(8, 9));
        self.emptySongs();
        Check.noSuch("through of none", self, () -> self.through(0, 0));
        ways();
    }

    /** Two rings come to the same tenant: each note has the way of its own ring. */
    private static void ways() {
        DoorbellChoir x = Edge.courtyard(16, 9);
        for (int i = 0; i < 8; i++) {
            Edge.give(x, i, Edge.RING, i + 1, 1, 0);
            Edge.give(x, 15 - i, Edge.RING, i == 7 ? 8 : 14 - i, 2, 0);
        }
        x.dropHabit(8, 0);
        Edge.give(x, 8, Edge.SING, 0, 1, 0);
        x.ring(0);
        x.ring(15);
        x.pass(14);
        Check.same("the way up: notes", x.count(6), 2);
        for (int hop = 0; hop <= 8; hop++) {
            Check.same("the way up, hop " + hop, x.through(0, hop), hop);
        }
        for (int hop = 0; hop <= 7; hop++) {
            Check.same("the way down, hop " + hop, x.through(1, hop), 15 - hop);
        }
        Check.noSuch("the way down, hop 8", x, () -> x.through(1, 8));
    }

    private static void sounds() {
        Document.promise(17);
        Document.says("- `what`: 0 how many notes sound, 1 the least note, 2 the greatest note "
            + "(-1 if none sounds), 3 the harmony");
        Document.says("Returns this.");
        DoorbellChoir x = singers(99, 87, 0, 44);
        Edge.all("before any was sung", new int[] {0, -1, -1, 0}, what -> x.sounds(0, what));
        x.ring(0);
        Edge.all("the greatest note alone", new int[] {1, 87, 87, 0}, what -> x.sounds(0, what));
        x.pass(1);
        x.ring(1);
        Edge.all("the first tick stays", new int[] {1, 87, 87, 0}, what -> x.sounds(0, what));
        Edge.all("both ends", new int[] {2, 0, 87, 1}, what -> x.sounds(1, what));
        x.pass(1);
        x.ring(2);
        Edge.all("three", new int[] {3, 0, 87, 3}, what -> x.sounds(2, what));
        Edge.all("two, at a tick to come", new int[] {2, 0, 44, 1}, what -> x.sounds(99, what));
        Edge.all("one, at a tick to come", new int[] {1, 44, 44, 0}, what -> x.sounds(100, what));
        Edge.all("behind the last one", new int[] {0, -1, -1, 0}, what -> x.sounds(101, what));
        Edge.all("at the greatest tick", new int[] {0, -1, -1, 0}, w -> x.sounds(MAX_VALUE, w));
        DoorbellChoir least = singers(5, 0);
        least.ring(0);
        Edge.all("the least note alone", new int[] {1, 0, 0, 0}, what -> least.sounds(0, what));
        Document.says("Throws `IllegalArgumentException` if tick is less than 0");
        Check.badArgument("sounds(-1, 0)", x, () -> x.sounds(-1, 0));
        Check.badArgument("sounds(least, 3)", x, () -> x.sounds(Integer.MIN_VALUE, 3));
        Document.says("Throws `IndexOutOfBoundsException` if what is not 0 to 3");
        Edge.outside("what at 0", 0, 3, Edge.NO_SUCH, x, n -> x.sounds(0, n));
        Edge.outside("what at the greatest tick", 0, 3, Edge.NO_SUCH, x,
            n -> x.sounds(MAX_VALUE, n));
    }

    private static void best() {
        Document.promise(18);
        Document.says("Returns the first tick, of those at which a kept note begins, with the "
            + "greatest harmony; -1 if no note is kept.");
        DoorbellChoir x = singers(1, 0, 1, 4, 7);
        Check.same("best of none", x.best(), -1);
        x.pass(5);
        x.ring(0);
        Check.same("a single note, not tick 0 of the same harmony", x.best(), 5);
        x.pass(5);
        x.ring(0);
        Check.same("two of the same harmony", x.best(), 5);
        x.emptySongs();
        Check.same("best behind an emptying", x.best(), -1);
        x.pass(1);
        x.ring(0);
        x.ring(1);
        Check.same("the greatest is -1", x.best(), 11);
        x.pass(1);
        x.ring(0);
        Check.same("a later one with 0", x.best(), 12);
        x.pass(1);
        x.ring(0);
        x.ring(2);
        Check.same("a later one with 1", x.best(), 13);
        x.pass(1);
        x.ring(0);
        x.ring(3);
        Check.same("another one with 1", x.best(), 13);
        x.pass(1);
        x.ring(0);
        x.ring(2);
        x.ring(3);
        Check.same("a later one with 3", x.best(), 15);
        // 0 sounds for 1 tick and 1 sounds on: harmony 0 at the tick 1, where no note begins.
        DoorbellChoir on = singers(1, 0, 1);
        on.setWhat(1, 0, Edge.SING, 0, 99, 0);
        on.ring(0);
        on.ring(1);
        Check.same("harmony at tick 0", on.sounds(0, 3), -1);
        Check.same("harmony at tick 1", on.sounds(1, 3), 0);
        Check.same("where none begins", on.best(), 0);
        Check.same("no note is kept in an empty courtyard", new DoorbellChoir().best(), -1);
        bestOfTheKept();
    }

    /** 200 notes of much harmony are kept from the tick 100 on; others begin later. */
    private static void bestOfTheKept() {
        DoorbellChoir x = singers(1, 3, 3, 3, 3, 3, 3, 3, 3, 3, 3, 3, 3, 3, 3, 3, 3);
        x.pass(100);
        for (int i = 0; i < 200; i++) {
            x.ring(i % 10);
            if (i % 10 == 9) {
                x.pass(1);
            }
        }
        Check.same("the first of 20 of the same harmony", x.best(), 100);
        for (int i = 0; i < 16; i++) {
            x.ring(i);
        }
        Check.same("a greater harmony, but of notes that are not kept", x.best(), 100);
        x.emptySongs();
        x.pass(1);
        x.ring(0);
        Check.same("the tick of one behind an emptying", x.best(), 121);
    }

    private static void emptySongs() {
        Document.promise(19);
        Document.says("Returns how many were kept.");
        DoorbellChoir none = new DoorbellChoir();
        Check.same("of an empty courtyard", none.emptySongs(), 0);
        Check.same("199", Edge.withNotes(199).emptySongs(), 199);
        Check.same("200", Edge.withNotes(200).emptySongs(), 200);
        DoorbellChoir full = Edge.withNotes(201);
        Check.same("201 were sung", full.emptySongs(), 200);
        Check.same("and again", full.emptySongs(), 0);
        Document.says("Empties the songs; notes that begin later are kept again.");
        Edge.all("the counts", new int[] {12, 0, 16, 0, 201, 0, 0, 0, 60}, w -> full.count(w));
        Check.same("notes the tenant has sung", full.tenant(0, 5), 13);
        Check.same("a visitor at the same tick is lost still", full.ring(8), 2);
        Check.same("one at the same tick who was not rung at", full.ring(9), 0);
        Edge.all("its note is kept", new int[] {12, 99, 49, 9, 0, -1}, w -> full.sung(0, w));
        Check.noSuch("there is no other", full, () -> full.sung(1, 0));
        DoorbellChoir x = toAndFro();
        x.pass(3);
        Check.same("four of the ring's notes", x.emptySongs(), 4);
        Check.same("the ring waits still", x.count(3), 1);
        x.pass(5);
        Check.same("the five others", x.count(6), 5);
        Edge.all("the first of them", new int[] {4, 1, 44, 0, 4, 1}, what -> x.sung(0, what));
        for (int hop = 0; hop <= 4; hop++) {
            Check.same("its way from the visitor on", x.through(0, hop), hop % 2);
        }
    }
}
