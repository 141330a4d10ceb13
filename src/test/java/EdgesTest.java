import java.util.ArrayList;
import java.util.List;

/**
 * Each sentence of the document that names an edge: too small, too large, empty, full, a
 * wrap-around, a refused call. The cases stand behind the sentence that they are due by, and at the
 * end no sentence of the terms and of the promises may be left that none of them quotes.
 */
public final class EdgesTest {
    public static void main(String[] args) {
        EdgesOfTenants.run();
        EdgesOfRings.run();
        EdgesOfWaiting.run();
        EdgesOfSongs.run();
        EdgesOfReach.run();
        atMost512Calls();
        refusedCallsChangeNothing();
        firstNamedException();
        sentencesWithoutAnEdge();
        Document.end();
        Check.end();
    }

    private static void atMost512Calls() {
        Document.whatItIs();
        Document.namesNoEdge("A courtyard whose doorbells make a choir.");
        Document.says("An object is used for at most 512 calls after it has been made; what later "
            + "calls answer is free.");
        DoorbellChoir x = new DoorbellChoir();
        x.moveIn(0, 0);
        Edge.give(x, 0, Edge.SING, 0, 99, 0);
        for (int call = 4; call < 512; call += 2) {
            Check.same("the call " + call, x.ring(0), 0);
            Check.same("the call " + (call + 1), x.pass(1000), 0);
        }
        Check.same("the call 512", x.count(0), 254_000);
        DoorbellChoir idle = new DoorbellChoir();
        for (int call = 1; call < 512; call++) {
            idle.pass(1000);
        }
        Check.same("the last tick that can be told", idle.count(0), 511_000);
        DoorbellChoir busy = Edge.courtyard(1, 0);
        for (int call = 2; call < 512; call += 2) {
            busy.addHabit(0);
            busy.dropHabit(0, 0);
        }
        Check.same("the call 512, an exchange of habits", busy.addHabit(0), 1);
    }

    /** Rings are under way, one tenant has heard one at this tick; the tenant 14 has 8 habits. */
    private static DoorbellChoir busyCourtyard() {
        DoorbellChoir x = Edge.courtyard(15, 3);
        for (int i = 0; i < 15; i++) {
            Edge.give(x, i, i % 3 == 0 ? Edge.BESIDE : Edge.SING_AND_RING, (i * 4) % 15, 2 + i % 3,
                i - 7);
        }
        for (int i = 1; i < 8; i++) {
            x.addHabit(14);
        }
        x.ring(2);
        x.ring(3);
        x.pass(7);
        x.ring(5);
        return x;
    }

    /** Of two courtyards, made by the same calls, one refuses many calls: they must stay alike. */
    private static void refusedCallsChangeNothing() {
        Document.terms();
        Document.says("A method that throws an exception changes nothing.");
        DoorbellChoir same = busyCourtyard();
        DoorbellChoir x = busyCourtyard();
        List<Check.Call> calls = refusedCalls(x);
        for (int i = 0; i < calls.size(); i++) {
            Check.same("the call " + i + " is refused", isRefused(calls.get(i)) ? 1 : 0, 1);
        }
        Check.same("the digest behind refused calls", x.digest(), same.digest());
        // What no digest tells: who has heard one at this tick, and the ways of the rings.
        for (int i = 0; i < 15; i++) {
            Check.same("ring " + i + " at this tick", x.ring(i), same.ring(i));
        }
        for (int i = 0; i < 20; i++) {
            Check.same("heard at one more tick", x.pass(1), same.pass(1));
            Check.same("the digest at one more tick", x.digest(), same.digest());
        }
        Check.same("how many notes are compared", same.count(6) > 20 ? 1 : 0, 1);
        for (int index = 0; index < 20; index++) {
            for (int hop = 0; hop <= same.sung(index, 4); hop++) {
                Check.same("through(" + index + ", " + hop + ")", x.through(index, hop),
                    same.through(index, hop));
            }
        }
        Check.same("one more moves in, as the next number", x.moveIn(0, 0), 15);
        Check.badState("the 17th", x, () -> x.moveIn(0, 0));
    }

    private static boolean isRefused(Check.Call call) {
        try {
            call.run();
        } catch (RuntimeException e) {
            return Check.isThrownByItself(e);
        }
        return false;
    }

    /** One for each reason to refuse a call, where all its other arguments would change much. */
    private static List<Check.Call> refusedCalls(DoorbellChoir x) {
        List<Check.Call> calls = new ArrayList<>();
        calls.add(() -> x.moveIn(88, 5));
        calls.add(() -> x.moveIn(5, 10));
        calls.add(() -> x.setHour(4));
        calls.add(() -> x.setHour(501));
        calls.add(() -> x.addHabit(15));
        calls.add(() -> x.addHabit(14));
        calls.add(() -> x.setWhen(15, 0, 1, 2, 1, 3));
        calls.add(() -> x.setWhen(2, 1, 1, 2, 1, 3));
        calls.add(() -> x.setWhen(2, 0, 24, 2, 1, 3));
        calls.add(() -> x.setWhen(2, 0, 1, 24, 1, 3));
        calls.add(() -> x.setWhen(2, 0, 1, 2, 3, 3));
        calls.add(() -> x.setWhen(2, 0, 1, 2, 1, 10));
        calls.add(() -> x.setWhat(15, 0, 2, 1, 9, 9));
        calls.add(() -> x.setWhat(2, 1, 2, 1, 9, 9));
        calls.add(() -> x.setWhat(2, 0, 2, 15, 9, 9));
        calls.add(() -> x.setWhat(2, 0, 6, 1, 9, 9));
        calls.add(() -> x.setWhat(2, 0, 2, 1, 100, 9));
        calls.add(() -> x.setWhat(2, 0, 2, 1, 9, 13));
        calls.add(() -> x.dropHabit(15, 0));
        calls.add(() -> x.dropHabit(2, 1));
        calls.add(() -> x.tenant(15, 0));
        calls.add(() -> x.tenant(0, 6));
        calls.add(() -> x.habit(2, 0, 9));
        calls.add(() -> x.ring(15));
        calls.add(() -> x.ring(-1));
        calls.add(() -> x.pass(0));
        calls.add(() -> x.pass(1001));
        calls.add(() -> x.count(9));
        calls.add(() -> x.waiting(60, 0));
        calls.add(() -> x.waiting(0, 5));
        calls.add(() -> x.fits(15, 0, 0));
        calls.add(() -> x.fits(0, 2, 0));
        calls.add(() -> x.sung(200, 0));
        calls.add(() -> x.sung(0, 6));
        calls.add(() -> x.through(0, 9));
        calls.add(() -> x.sounds(-1, 0));
        calls.add(() -> x.sounds(0, 4));
        calls.add(() -> x.reach(15));
        calls.add(() -> x.hops(0, 15));
        return calls;
    }

    private static void firstNamedException() {
        Document.terms();
        Document.says("If several exceptions apply, the one that is named first is thrown.");
        DoorbellChoir x = Edge.courtyard(16, 9);
        x.addHabit(0);
        Check.badArgument("moveIn, note and 16", x, () -> x.moveIn(-1, 0));
        Check.badArgument("moveIn, patience and 16", x, () -> x.moveIn(0, 10));
        Check.badState("moveIn, 16 alone", x, () -> x.moveIn(0, 0));
        Check.noSuch("setWhen, tenant and first", x, () -> x.setWhen(16, 0, 24, 0, 0, 0));
        Check.noSuch("setWhen, habit and last", x, () -> x.setWhen(0, 1, 0, 24, 0, 0));
        Check.noSuch("setWhen, habit and sort", x, () -> x.setWhen(0, 1, 0, 0, 3, 0));
        Check.noSuch("setWhen, habit and patience", x, () -> x.setWhen(1, 0, 0, 0, 0, 10));
        Check.noSuch("setWhat, tenant and action", x, () -> x.setWhat(16, 0, 6, 0, 1, 0));
        Check.noSuch("setWhat, habit and delay", x, () -> x.setWhat(0, 1, 0, 0, 0, 0));
        Check.noSuch("setWhat, aim and action", x, () -> x.setWhat(0, 0, 6, 16, 1, 0));
        Check.noSuch("setWhat, aim and delay", x, () -> x.setWhat(0, 0, 0, -1, 100, 0));
        Check.noSuch("setWhat, aim and shift", x, () -> x.setWhat(0, 0, 0, 16, 1, 13));
        Check.noSuch("fits, tenant and sort", x, () -> x.fits(16, 2, 0));
        Check.noSuch("fits, tenant and hour", x, () -> x.fits(-1, 0, 24));
        Check.badArgument("sounds, tick and what", x, () -> x.sounds(-1, 4));
        Check.badArgument("sounds, tick and what below 0", x, () -> x.sounds(-1, -1));
        Check.noSuch("sounds, what alone", x, () -> x.sounds(0, 4));
    }

    private static void sentencesWithoutAnEdge() {
        Document.terms();
        Document.namesNoEdge("Who is rung at answers with a note, ignores it, or rings at others, by "
            + "habits that go by the hour, by who rings, and by patience; rings run on through the "
            + "courtyard with delays and shifts of their notes, and come back; it is told what is "
            + "sung, by whose ring, how it sounds together, and which tenants can be reached from "
            + "which.");
        Document.namesNoEdge("Ahead of the calls `moveIn`, `setHour`, `addHabit`, `setWhen`, "
            + "`setWhat`, `dropHabit`, `tenant`, `habit` the interface says: ---- tenants.");
        Document.namesNoEdge("Ahead of the calls `ring`, `pass`, `count`, `waiting`, `fits` the "
            + "interface says: ---- rings.");
        Document.namesNoEdge("Ahead of the calls `sung`, `through`, `sounds`, `best`, `emptySongs` "
            + "the interface says: ---- songs.");
        Document.namesNoEdge("Ahead of the calls `reach`, `hops`, `patience`, `digest` the "
            + "interface says: ---- who reaches whom.");
    }
}
