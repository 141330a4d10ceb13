/**
 * Promises 1 to 23 together: long runs of calls, each answer held against PlainCourtyard. The runs
 * are drawn from a written number, so they are the same each time. The document leaves free what
 * comes behind the 512th call; the class answers on as before, so that a run can look at more.
 */
public final class LongRunsTest {
    private static final int RUNS = 400;
    private static final int CALLS = 512;

    private static long drawn;

    private final DoorbellChoir x = new DoorbellChoir();
    private final PlainCourtyard plain = new PlainCourtyard();
    private final int run;
    /** How the run's courtyard is: whether it rings much, and with which delays. */
    private final boolean ringing = draw(2) == 0;
    private final int mostDelay = new int[] {2, 6, 20, 99}[draw(4)];
    private final int mostPass = new int[] {2, 9, 60, 1000}[draw(4)];
    private final int mostTenants = new int[] {2, 5, 16, 16}[draw(4)];

    private LongRunsTest(int run) {
        this.run = run;
    }

    public static void main(String[] args) {
        for (int run = 0; run < RUNS; run++) {
            drawn = run * 7919L + 17;
            LongRunsTest one = new LongRunsTest(run);
            for (int call = 0; call < CALLS; call++) {
                one.callOnce(call);
            }
            one.compareAll();
        }
        Check.end();
    }

    private static int draw(int bound) {
        drawn = drawn * 6364136223846793005L + 1442695040888963407L;
        return (int) ((drawn >>> 33) % bound);
    }

    private void same(String call, long got, long due) {
        Check.same("run " + run + ": " + call, got, due);
    }

    private void callOnce(int call) {
        int size = plain.tenants.size();
        if (size < 2 || call < 60 && size < mostTenants && draw(3) == 0) {
            int note = draw(88);
            int patience = draw(10);
            same(call + " moveIn", x.moveIn(note, patience), plain.moveIn(note, patience));
        } else if (call < 100 || draw(6) == 0) {
            changeHabits(call, draw(size));
        } else if (draw(2) == 0) {
            goOn(call, draw(size));
        } else {
            ask(call, draw(size), draw(size));
        }
        same(call + " digest", x.digest(), plain.digest());
    }

    private void changeHabits(int call, int tenant) {
        int habits = plain.tenant(tenant, 3);
        if (habits < 8 && (habits == 0 || draw(4) == 0)) {
            same(call + " addHabit", x.addHabit(tenant), plain.addHabit(tenant));
            return;
        }
        int habit = draw(habits);
        int kind = draw(10);
        if (kind == 0) {
            same(call + " dropHabit", x.dropHabit(tenant, habit), plain.dropHabit(tenant, habit));
        } else if (kind < 3) {
            int first = draw(24);
            int last = draw(24);
            int sort = draw(3);
            int patience = draw(draw(10) + 1);
            same(call + " setWhen", x.setWhen(tenant, habit, first, last, sort, patience),
                plain.setWhen(tenant, habit, first, last, sort, patience));
        } else {
            int action = ringing ? 2 + draw(4) : draw(6);
            int aim = draw(plain.tenants.size());
            int delay = 1 + draw(mostDelay);
            int shift = draw(25) - 12;
            same(call + " setWhat", x.setWhat(tenant, habit, action, aim, delay, shift),
                plain.setWhat(tenant, habit, action, aim, delay, shift));
        }
    }

    private void goOn(int call, int tenant) {
        int kind = draw(20);
        if (kind == 0) {
            int ticks = draw(2) == 0 ? 5 + draw(496) : 5 + draw(10);
            int before = plain.ticksOfHour;
            plain.ticksOfHour = ticks;
            same(call + " setHour", x.setHour(ticks), before);
        } else if (kind == 1 && draw(3) == 0) {
            same(call + " emptySongs", x.emptySongs(), plain.emptySongs());
        } else if (kind < 13) {
            same(call + " ring", x.ring(tenant), plain.ring(tenant));
        } else {
            int ticks = 1 + draw(mostPass);
            same(call + " pass", x.pass(ticks), plain.pass(ticks));
        }
    }

    private void ask(int call, int a, int b) {
        switch (draw(6)) {
            case 0:
                int sort = draw(2);
                int hour = draw(24);
                same(call + " fits", x.fits(a, sort, hour), plain.fits(a, sort, hour));
                break;
            case 1:
                int tick = draw(3) == 0 ? plain.now + draw(20) : draw(plain.now + 1);
                for (int what = 0; what < 4; what++) {
                    same(call + " sounds " + what, x.sounds(tick, what), plain.sounds(tick, what));
                }
                break;
            case 2:
                compareReach(call, a);
                break;
            case 3:
                Check.sameDouble("run " + run + ": " + call + " patience", x.patience(),
                    plain.patience());
                break;
            case 4:
                if (!plain.kept.isEmpty()) {
                    compareWay(call, draw(plain.kept.size()));
                }
                break;
            default:
                same(call + " best", x.best(), plain.best());
        }
    }

    private void compareReach(int call, int a) {
        int[] least = plain.allHops()[a];
        int set = 0;
        for (int b = 0; b < least.length; b++) {
            set += least[b] < 1000 ? 1 << b : 0;
            same(call + " hops " + a + " " + b, x.hops(a, b), least[b] < 1000 ? least[b] : -1);
        }
        same(call + " reach " + a, x.reach(a), set);
    }

    private void compareWay(int call, int index) {
        for (int hop = 0; hop <= plain.sung(index, 4); hop++) {
            same(call + " through " + index + " " + hop, x.through(index, hop),
                plain.through(index, hop));
        }
    }

    private void compareAll() {
        for (int index = 0; index < plain.waiting.size(); index++) {
            for (int what = 0; what < 5; what++) {
                same("waiting " + index + " " + what, x.waiting(index, what),
                    plain.waiting(index, what));
            }
        }
        for (int index = 0; index < plain.kept.size(); index++) {
            for (int what = 0; what < 6; what++) {
                same("sung " + index + " " + what, x.sung(index, what), plain.sung(index, what));
            }
            compareWay(CALLS, index);
        }
        for (int tenant = 0; tenant < plain.tenants.size(); tenant++) {
            compareReach(CALLS, tenant);
        }
        same("best", x.best(), plain.best());
    }
}
