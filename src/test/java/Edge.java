/** What the tests of the edges share: courtyards, and numbers just outside and just inside. */
final class Edge {
    static final int SING = 0;
    static final int IGNORE = 1;
    static final int RING = 2;
    static final int BESIDE = 3;
    static final int SING_AND_RING = 4;
    static final int ALL = 5;

    static final Class<IndexOutOfBoundsException> NO_SUCH = IndexOutOfBoundsException.class;
    static final Class<IllegalArgumentException> BAD_ARGUMENT = IllegalArgumentException.class;
    static final Class<IllegalStateException> BAD_STATE = IllegalStateException.class;

    private static final int MOST_DELAY = 99;

    private Edge() {
    }

    interface Asked {
        void with(int number);
    }

    /** The call refuses the numbers just outside the range, and those furthest outside. */
    static void outside(String call, int least, int most, Class<? extends Exception> due,
        DoorbellChoir x, Asked asked) {
        int[] numbers = {Integer.MIN_VALUE, least - 1, most + 1, Integer.MAX_VALUE};
        for (int number : numbers) {
            Check.refused(call + " with " + number, due, x, () -> asked.with(number));
        }
    }

    /** Tenants with the notes 40, 41 and so on, without a habit. */
    static DoorbellChoir courtyard(int tenants, int patience) {
        DoorbellChoir x = new DoorbellChoir();
        for (int i = 0; i < tenants; i++) {
            x.moveIn(40 + i, patience);
        }
        return x;
    }

    /** Adds a habit, behind the others, that fits at any time. */
    static void give(DoorbellChoir x, int tenant, int action, int aim, int delay, int shift) {
        int habit = x.addHabit(tenant) - 1;
        x.setWhat(tenant, habit, action, aim, delay, shift);
    }

    /**
     * 58 to 70 rings that wait for the ticks 99 and 100, in a courtyard of 16, and none was lost.
     * It is the tick 1: at it the tenants from 3 on were rung at, one for each ring over 58. The
     * habit of 0 to 2 rings at all others, that of each other one rings at 0.
     */
    static DoorbellChoir withWaiting(int rings) {
        DoorbellChoir x = courtyard(16, 9);
        for (int i = 0; i < 16; i++) {
            give(x, i, i < 3 ? ALL : RING, 0, MOST_DELAY, 0);
            x.ring(i);
        }
        x.pass(1);
        for (int i = 3; i < 3 + rings - 58; i++) {
            x.ring(i);
        }
        return x;
    }

    /** Notes that are sung, 16 a tick by the tenants in their order, each for 99 ticks. */
    static DoorbellChoir withNotes(int notes) {
        DoorbellChoir x = courtyard(16, 0);
        for (int i = 0; i < 16; i++) {
            give(x, i, SING, i, MOST_DELAY, 0);
        }
        for (int i = 0; i < notes; i++) {
            if (i > 0 && i % 16 == 0) {
                x.pass(1);
            }
            x.ring(i % 16);
        }
        return x;
    }

    /** All that count(), tenant(), habit(), waiting() or sung() tell of one thing, in order. */
    static void all(String call, int[] due, java.util.function.IntUnaryOperator told) {
        for (int what = 0; what < due.length; what++) {
            Check.same(call + ", what " + what, told.applyAsInt(what), due[what]);
        }
    }

    static void waiting(String when, DoorbellChoir x, int[]... due) {
        Check.same(when + ": how many wait", x.count(3), due.length);
        for (int i = 0; i < due.length && i < x.count(3); i++) {
            int index = i;
            all(when + ": the waiting ring " + i, due[i], what -> x.waiting(index, what));
        }
    }
}
