import java.util.ArrayList;
import java.util.Comparator;
import java.util.List;

/**
 * The document once more, in the plainest form and with the whole Java library, so that the tests
 * have something to hold DoorbellChoir against. It refuses nothing: it is asked sound calls alone.
 */
final class PlainCourtyard {
    record Ring(int tick, int at, int by, int shift, int hops, List<Integer> through) {
    }

    record Sung(int tick, int length, int note, Ring ring) {
        boolean soundsAt(int other) {
            return tick <= other && other <= (long) tick + length - 1;
        }
    }

    static final class Tenant {
        final int[] numbers = new int[6];
        final List<int[]> habits = new ArrayList<>();
        int heardAt = -1;
    }

    final List<Tenant> tenants = new ArrayList<>();
    List<Ring> waiting = new ArrayList<>();
    List<Sung> kept = new ArrayList<>();
    int ticksOfHour = 60;
    int now;
    int heard;
    int lost;
    int sungSinceEmptied;
    int mostHops;

    int moveIn(int note, int patience) {
        Tenant one = new Tenant();
        one.numbers[0] = note;
        one.numbers[1] = patience;
        one.numbers[2] = patience;
        tenants.add(one);
        return tenants.size() - 1;
    }

    int addHabit(int tenant) {
        tenants.get(tenant).habits.add(new int[] {0, 23, 2, 0, 1, tenant, 1, 0, 0});
        return tenants.get(tenant).habits.size();
    }

    int setWhen(int tenant, int habit, int first, int last, int sort, int patience) {
        int[] changed = tenants.get(tenant).habits.get(habit);
        int before = changed[2];
        System.arraycopy(new int[] {first, last, sort, patience}, 0, changed, 0, 4);
        return before;
    }

    int setWhat(int tenant, int habit, int action, int aim, int delay, int shift) {
        int[] changed = tenants.get(tenant).habits.get(habit);
        int before = changed[4];
        System.arraycopy(new int[] {action, aim, delay, shift}, 0, changed, 4, 4);
        return before;
    }

    int dropHabit(int tenant, int habit) {
        tenants.get(tenant).habits.remove(habit);
        return tenants.get(tenant).habits.size();
    }

    int tenant(int tenant, int what) {
        Tenant one = tenants.get(tenant);
        return what == 3 ? one.habits.size() : one.numbers[what];
    }

    int count(int what) {
        int hour = now / ticksOfHour % 24;
        return new int[] {now, hour, tenants.size(), waiting.size(), heard, lost,
            sungSinceEmptied, mostHops, ticksOfHour}[what];
    }

    int waiting(int index, int what) {
        Ring r = waiting.get(index);
        return new int[] {r.tick, r.at, r.by, r.shift, r.hops}[what];
    }

    int sung(int index, int what) {
        Sung s = kept.get(index);
        return new int[] {s.tick, s.length, s.note, s.ring.at, s.ring.hops, s.ring.by}[what];
    }

    int fits(int tenant, int sort, int hour) {
        List<int[]> habits = tenants.get(tenant).habits;
        for (int[] habit : habits) {
            boolean holds = false;
            for (int h = habit[0];; h = (h + 1) % 24) {
                holds |= h == hour;
                if (h == habit[1]) {
                    break;
                }
            }
            if (holds && (habit[2] == sort || habit[2] == 2)
                && tenants.get(tenant).numbers[2] >= habit[3]) {
                return habits.indexOf(habit);
            }
        }
        return -1;
    }

    int ring(int tenant) {
        return hear(new Ring(now, tenant, -1, 0, 0, List.of(tenant)));
    }

    int pass(int ticks) {
        int before = heard;
        for (int i = 0; i < ticks; i++) {
            now++;
            if (now % ticksOfHour == 0) {
                for (Tenant one : tenants) {
                    one.numbers[2] = Math.min(one.numbers[1], one.numbers[2] + 1);
                }
            }
            while (!waiting.isEmpty() && waiting.get(0).tick == now) {
                hear(waiting.remove(0));
            }
        }
        return heard - before;
    }

    private int hear(Ring ring) {
        Tenant one = tenants.get(ring.at);
        if (one.heardAt == now) {
            lost++;
            return 2;
        }
        one.heardAt = now;
        one.numbers[4]++;
        heard++;
        mostHops = Math.max(mostHops, ring.hops);
        int fitting = fits(ring.at, ring.by == -1 ? 0 : 1, count(1));
        if (fitting >= 0) {
            follow(one, one.habits.get(fitting), ring);
        }
        one.numbers[2] = Math.max(0, one.numbers[2] - 1);
        return fitting >= 0 ? 0 : 1;
    }

    private void follow(Tenant one, int[] habit, Ring ring) {
        habit[8]++;
        if (habit[4] == 0 || habit[4] == 4) {
            one.numbers[5]++;
            sungSinceEmptied++;
            if (kept.size() < 200) {
                int note = ((one.numbers[0] + ring.shift) % 88 + 88) % 88;
                kept.add(new Sung(now, habit[6], note, ring));
            }
        }
        if (ring.hops == 8) {
            return;
        }
        for (int at : aims(ring.at, habit)) {
            List<Integer> through = new ArrayList<>(ring.through);
            through.add(at);
            Ring next = new Ring(now + habit[6], at, ring.at, ring.shift + habit[7],
                ring.hops + 1, through);
            if (waiting.size() == 60) {
                lost++;
            } else {
                waiting.add(next);
                waiting.sort(Comparator.comparingInt(Ring::tick).thenComparingInt(Ring::at));
            }
        }
    }

    private List<Integer> aims(int from, int[] habit) {
        List<Integer> aims = new ArrayList<>();
        for (int at = 0; at < tenants.size(); at++) {
            boolean beside = Math.abs(at - from) == 1;
            if ((habit[4] == 2 || habit[4] == 4) && at == habit[5]
                || habit[4] == 3 && beside || habit[4] == 5 && at != from) {
                aims.add(at);
            }
        }
        return aims;
    }

    int through(int index, int hop) {
        return kept.get(index).ring.through.get(hop);
    }

    int sounds(int tick, int what) {
        List<Integer> notes = new ArrayList<>();
        for (Sung s : kept) {
            if (s.soundsAt(tick)) {
                notes.add(s.note);
            }
        }
        int harmony = 0;
        for (int i = 0; i < notes.size(); i++) {
            for (int k = 0; k < i; k++) {
                int interval = Math.abs(notes.get(i) - notes.get(k)) % 12;
                harmony += List.of(0, 3, 4, 5, 7, 8, 9).contains(interval) ? 1 : -1;
            }
        }
        notes.sort(null);
        int size = notes.size();
        return new int[] {size, size == 0 ? -1 : notes.get(0),
            size == 0 ? -1 : notes.get(size - 1), harmony}[what];
    }

    int best() {
        int best = -1;
        for (Sung s : kept) {
            if (best == -1 || sounds(s.tick, 3) > sounds(best, 3)
                || sounds(s.tick, 3) == sounds(best, 3) && s.tick < best) {
                best = s.tick;
            }
        }
        return best;
    }

    int emptySongs() {
        int before = kept.size();
        kept = new ArrayList<>();
        sungSinceEmptied = 0;
        return before;
    }

    /** The least hops from each tenant to each other one, by trying each tenant in between. */
    int[][] allHops() {
        int size = tenants.size();
        int[][] least = new int[size][size];
        for (int a = 0; a < size; a++) {
            java.util.Arrays.fill(least[a], 1000);
            for (int[] habit : tenants.get(a).habits) {
                for (int b : aims(a, habit)) {
                    least[a][b] = 1;
                }
            }
        }
        for (int k = 0; k < size; k++) {
            for (int a = 0; a < size; a++) {
                for (int b = 0; b < size; b++) {
                    least[a][b] = Math.min(least[a][b], least[a][k] + least[k][b]);
                }
            }
        }
        return least;
    }

    double patience() {
        double sum = 0;
        for (Tenant one : tenants) {
            sum += one.numbers[2];
        }
        return tenants.isEmpty() ? 0 : sum / tenants.size();
    }

    long digest() {
        List<Integer> all = new ArrayList<>();
        for (int what = 0; what < 9; what++) {
            all.add(count(what));
        }
        for (int tenant = 0; tenant < tenants.size(); tenant++) {
            for (int what = 0; what < 6; what++) {
                all.add(tenant(tenant, what));
            }
            for (int[] habit : tenants.get(tenant).habits) {
                for (int number : habit) {
                    all.add(number);
                }
            }
        }
        for (int index = 0; index < waiting.size(); index++) {
            for (int what = 0; what < 5; what++) {
                all.add(waiting(index, what));
            }
        }
        for (int index = 0; index < kept.size(); index++) {
            for (int what = 0; what < 6; what++) {
                all.add(sung(index, what));
            }
        }
        long d = 439;
        for (int number : all) {
            d = d * 31 + number;
        }
        return d;
    }
}
