/**
 * Any numbers in any state: a call answers, or it throws by a throw statement of DoorbellChoir one
 * of the exceptions that the document names for it, and then changes nothing.
 */
public final class WildCallsTest {
    private static final int RUNS = 60;
    private static final int CALLS = 512;
    private static final int[] EDGES = {Integer.MIN_VALUE, -13, -12, -2, -1, 0, 1, 2, 3, 4, 5, 6,
        7, 8, 9, 10, 12, 13, 15, 16, 17, 22, 23, 24, 31, 32, 59, 60, 61, 63, 64, 87, 88, 99, 100,
        199, 200, 201, 500, 501, 1000, 1001, Integer.MAX_VALUE};
    private static final String ARGUMENT = "IllegalArgumentException";
    private static final String STATE = "IllegalStateException";
    private static final String INDEX = "IndexOutOfBoundsException";
    private static final String[][] NAMED = {{ARGUMENT, STATE}, {ARGUMENT}, {INDEX, STATE},
        {INDEX, ARGUMENT}, {INDEX, ARGUMENT}, {INDEX}, {INDEX}, {INDEX}, {INDEX}, {ARGUMENT},
        {INDEX}, {INDEX}, {INDEX, ARGUMENT}, {INDEX}, {INDEX}, {ARGUMENT, INDEX}, {}, {}, {INDEX},
        {INDEX}, {}, {}};

    private static long drawn = 20;

    public static void main(String[] args) {
        for (int run = 0; run < RUNS; run++) {
            DoorbellChoir x = new DoorbellChoir();
            for (int call = 0; call < CALLS; call++) {
                tryOne("run " + run + ", call " + call, x, draw(NAMED.length), run % 3);
            }
        }
        Check.end();
    }

    private static int draw(int bound) {
        drawn = drawn * 6364136223846793005L + 1442695040888963407L;
        return (int) ((drawn >>> 33) % bound);
    }

    /** A number for which most calls answer, or any edge: the tamer a run, the rarer an edge. */
    private static int number(int tame, int bound) {
        return draw(tame * 4 + 1) == 0 ? EDGES[draw(EDGES.length)] : draw(bound);
    }

    private static void tryOne(String where, DoorbellChoir x, int kind, int tame) {
        long before = x.digest();
        try {
            callOf(x, kind, tame);
        } catch (RuntimeException e) {
            String name = e.getClass().getSimpleName();
            boolean named = false;
            for (String one : NAMED[kind]) {
                named |= one.equals(name);
            }
            Check.same(where + " of kind " + kind + ": " + name + " is named", named ? 1 : 0, 1);
            Check.same(where + " of kind " + kind + ": it throws itself",
                Check.isThrownByItself(e) ? 1 : 0, 1);
            Check.same(where + " of kind " + kind + ": digest", x.digest(), before);
        }
    }

    private static void callOf(DoorbellChoir x, int kind, int tame) {
        int a = number(tame, 8);
        int b = number(tame, 4);
        switch (kind) {
            case 0: x.moveIn(number(tame, 88), number(tame, 10)); break;
            case 1: x.setHour(number(tame, 60)); break;
            case 2: x.addHabit(a); break;
            case 3: x.setWhen(a, b, number(tame, 24), number(tame, 24), number(tame, 3),
                number(tame, 3)); break;
            case 4: x.setWhat(a, b, number(tame, 6), number(tame, 8), number(tame, 9),
                number(tame, 13)); break;
            case 5: x.dropHabit(a, b + draw(8)); break;
            case 6: x.tenant(a, b); break;
            case 7: x.habit(a, b, number(tame, 9)); break;
            case 8: x.ring(a); break;
            case 9: x.pass(number(tame, 9)); break;
            case 10: x.count(a); break;
            case 11: x.waiting(number(tame, 60), b); break;
            case 12: x.fits(a, number(tame, 2), number(tame, 24)); break;
            case 13: x.sung(number(tame, 200), b); break;
            case 14: x.through(number(tame, 200), b); break;
            case 15: x.sounds(number(tame, 500), b); break;
            case 16: x.best(); break;
            case 17: x.emptySongs(); break;
            case 18: x.reach(a); break;
            case 19: x.hops(a, b); break;
            case 20: x.patience(); break;
            default: x.digest(); break;
        }
    }
}
