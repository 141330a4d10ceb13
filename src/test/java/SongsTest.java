/** Promises 15 to 19: the songs and how they sound. */
public final class SongsTest {
    public static void main(String[] args) {
        sung();
        notesByTheirRemainder();
        through();
        sounds();
        harmony();
        best();
        emptySongs();
        atMostTwoHundred();
        Check.end();
    }

    /** Tenants who sing these notes, each for as many ticks as is told. */
    private static DoorbellChoir singers(int[] notes, int[] lengths) {
        DoorbellChoir x = new DoorbellChoir();
        for (int i = 0; i < notes.length; i++) {
            x.moveIn(notes[i], 9);
            Edge.give(x, i, Edge.SING, i, lengths[i], 5);
        }
        return x;
    }

    private static void sung() {
        DoorbellChoir x = new DoorbellChoir();
        x.moveIn(60, 9);
        x.moveIn(20, 9);
        Edge.give(x, 0, Edge.SING_AND_RING, 1, 6, 7);
        Edge.give(x, 1, Edge.SING, 0, 99, -3);
        x.pass(2);
        x.ring(0);
        x.pass(6);
        int[][] due = {{2, 6, 60, 0, 0, -1}, {8, 99, 27, 1, 1, 0}};
        for (int i = 0; i < due.length; i++) {
            for (int what = 0; what < 6; what++) {
                Check.same("sung(" + i + ", " + what + ")", x.sung(i, what), due[i][what]);
            }
        }
        x.setWhat(0, 0, Edge.SING, 0, 1, 0);
        Check.same("a note stays as it was sung", x.sung(0, 1), 6);
        Check.noSuch("sung(2, 0)", x, () -> x.sung(2, 0));
        Check.noSuch("sung(-1, 0)", x, () -> x.sung(-1, 0));
        Check.noSuch("sung(0, 6)", x, () -> x.sung(0, 6));
        Check.noSuch("sung(0, -1)", x, () -> x.sung(0, -1));
    }

    private static void notesByTheirRemainder() {
        DoorbellChoir low = new DoorbellChoir();
        low.moveIn(3, 9);
        Edge.give(low, 0, Edge.SING_AND_RING, 0, 1, -12);
        low.ring(0);
        low.pass(8);
        int[] falling = {3, 79, 67, 55, 43, 31, 19, 7, 83};
        for (int i = 0; i < falling.length; i++) {
            Check.same("falling note " + i, low.sung(i, 2), falling[i]);
        }
        DoorbellChoir high = new DoorbellChoir();
        high.moveIn(87, 9);
        Edge.give(high, 0, Edge.SING_AND_RING, 0, 1, 1);
        high.ring(0);
        high.pass(2);
        Check.same("note 87", high.sung(0, 2), 87);
        Check.same("note 88", high.sung(1, 2), 0);
        Check.same("note 89", high.sung(2, 2), 1);
    }

    private static void through() {
        DoorbellChoir x = new DoorbellChoir();
        for (int i = 0; i < 16; i++) {
            x.moveIn(i, 9);
        }
        int[] way = {15, 0, 7, 7, 3, 15, 14, 8, 1};
        for (int i = 0; i + 1 < way.length; i++) {
            Edge.give(x, way[i], Edge.SING_AND_RING, way[i + 1], 2, 0);
        }
        // 15 and 7 ring on in two ways: the first habits must fit the first time alone.
        x.setWhen(15, 0, 0, 23, 0, 0);
        x.setWhen(7, 0, 0, 23, 1, 9);
        Edge.give(x, 1, Edge.SING, 1, 1, 0);
        x.ring(15);
        x.pass(16);
        Check.same("notes", x.count(6), way.length);
        for (int index = 0; index < way.length; index++) {
            Check.same("who sang " + index, x.sung(index, 3), way[index]);
            for (int hop = 0; hop <= index; hop++) {
                Check.same("through(" + index + ", " + hop + ")", x.through(index, hop), way[hop]);
            }
            int note = index;
            Check.noSuch("through(" + index + ", one more)", x, () -> x.through(note, note + 1));
        }
        Check.noSuch("through(0, -1)", x, () -> x.through(0, -1));
        Check.noSuch("through(-1, 0)", x, () -> x.through(-1, 0));
        Check.noSuch("through(9, 0)", x, () -> x.through(9, 0));
    }

    private static void sounds() {
        DoorbellChoir x = singers(new int[] {60, 10, 80}, new int[] {3, 1, 5});
        x.pass(4);
        x.ring(0);
        x.ring(1);
        x.pass(1);
        x.ring(2);
        int[][] due = {{3, 0, -1, -1, 0}, {4, 2, 10, 60, -1}, {5, 2, 60, 80, 1}, {6, 2, 60, 80, 1},
            {7, 1, 80, 80, 0}, {9, 1, 80, 80, 0}, {10, 0, -1, -1, 0},
            {Integer.MAX_VALUE, 0, -1, -1, 0}, {0, 0, -1, -1, 0}};
        for (int[] row : due) {
            for (int what = 0; what < 4; what++) {
                Check.same("sounds(" + row[0] + ", " + what + ")", x.sounds(row[0], what),
                    row[what + 1]);
            }
        }
        Check.badArgument("sounds(-1, 0)", x, () -> x.sounds(-1, 0));
        Check.badArgument("sounds(-1, 4)", x, () -> x.sounds(-1, 4));
        Check.noSuch("sounds(0, 4)", x, () -> x.sounds(0, 4));
        Check.noSuch("sounds(0, -1)", x, () -> x.sounds(0, -1));
    }

    private static void harmony() {
        boolean[] good = {true, false, false, true, true, true, false, true, true, true, false,
            false};
        for (int a = 0; a < 88; a += 3) {
            for (int b = 0; b < 88; b++) {
                DoorbellChoir x = singers(new int[] {a, b}, new int[] {1, 1});
                x.ring(0);
                x.ring(1);
                int due = good[Math.abs(a - b) % 12] ? 1 : -1;
                Check.same("harmony of " + a + " and " + b, x.sounds(0, 3), due);
            }
        }
        int[] chord = {0, 4, 7, 12, 12, 13, 87, 41};
        DoorbellChoir x = singers(chord, new int[] {9, 9, 9, 9, 9, 9, 9, 9});
        int due = 0;
        for (int i = 0; i < chord.length; i++) {
            x.ring(i);
            for (int k = 0; k < i; k++) {
                due += good[Math.abs(chord[i] - chord[k]) % 12] ? 1 : -1;
            }
            Check.same("harmony of " + (i + 1) + " notes", x.sounds(0, 3), due);
        }
    }

    private static void best() {
        DoorbellChoir x = singers(new int[] {10, 11, 22, 34, 17}, new int[] {2, 2, 2, 2, 20});
        Check.same("best of none", x.best(), -1);
        x.ring(4);
        Check.same("best of one at tick 0", x.best(), 0);
        x.emptySongs();
        x.pass(3);
        x.ring(0);
        x.ring(1);
        Check.same("best where all is bad", x.best(), 3);
        x.pass(10);
        x.ring(0);
        Check.same("best, a single note", x.best(), 13);
        x.pass(10);
        x.ring(0);
        x.pass(10);
        Check.same("best, the first of two", x.best(), 13);
        x.ring(2);
        x.ring(3);
        x.ring(0);
        Check.same("best, a chord", x.best(), 33);
        x.pass(10);
        x.ring(0);
        x.ring(2);
        x.ring(3);
        Check.same("best, the first of two chords", x.best(), 33);
        x.pass(5);
        x.ring(4);
        x.pass(1);
        x.ring(0);
        x.ring(2);
        x.ring(3);
        Check.same("best, with one that sounds on", x.best(), 49);
    }

    private static void emptySongs() {
        DoorbellChoir x = singers(new int[] {10, 20, 30}, new int[] {8, 9, 7});
        Check.same("emptySongs() of none", x.emptySongs(), 0);
        x.ring(0);
        x.ring(1);
        Check.same("emptySongs()", x.emptySongs(), 2);
        Check.same("count(6)", x.count(6), 0);
        Check.same("best()", x.best(), -1);
        Check.same("sounds(0, 0)", x.sounds(0, 0), 0);
        Check.noSuch("sung(0, 0)", x, () -> x.sung(0, 0));
        Check.noSuch("through(0, 0)", x, () -> x.through(0, 0));
        x.pass(1);
        x.ring(2);
        Check.same("kept again", x.count(6), 1);
        Check.same("its note", x.sung(0, 2), 30);
        Check.noSuch("sung(1, 0)", x, () -> x.sung(1, 0));
        Check.same("the old ones sound no more", x.sounds(1, 0), 1);
        Check.same("rings that were heard are still", x.count(4), 3);
        Check.same("emptySongs() again", x.emptySongs(), 1);
    }

    private static void atMostTwoHundred() {
        DoorbellChoir x = new DoorbellChoir();
        for (int i = 0; i < 16; i++) {
            x.moveIn(i, 0);
            Edge.give(x, i, Edge.SING, i, 99, 0);
        }
        for (int tick = 0; tick < 12; tick++) {
            for (int i = 0; i < 16; i++) {
                x.ring(i);
            }
            x.pass(1);
        }
        Check.same("sung so far", x.count(6), 192);
        for (int i = 0; i < 8; i++) {
            x.ring(i);
        }
        Check.same("the last that is kept", x.sung(199, 3), 7);
        Check.same("how many sound", x.sounds(12, 0), 200);
        x.ring(8);
        Check.same("more are counted", x.count(6), 201);
        Check.same("by the tenant, too", x.tenant(8, 5), 13);
        Check.noSuch("sung(200, 0)", x, () -> x.sung(200, 0));
        Check.noSuch("through(200, 0)", x, () -> x.through(200, 0));
        Check.same("but do not sound", x.sounds(12, 0), 200);
        Check.same("emptySongs()", x.emptySongs(), 200);
        x.pass(1);
        x.ring(3);
        Check.same("the first of the next ones", x.sung(0, 3), 3);
    }
}
