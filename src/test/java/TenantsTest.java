/** Promises 1 to 9: a new object, tenants and their habits. */
public final class TenantsTest {
    private static final int LEAST = Integer.MIN_VALUE;
    private static final int MOST = Integer.MAX_VALUE;

    public static void main(String[] args) {
        newObject();
        moveIn();
        setHour();
        addHabit();
        setWhen();
        setWhat();
        dropHabit();
        tenant();
        habit();
        Check.end();
    }

    private static void newObject() {
        DoorbellChoir x = new DoorbellChoir();
        int[] counts = {0, 0, 0, 0, 0, 0, 0, 0, 60};
        for (int what = 0; what < counts.length; what++) {
            Check.same("new: count(" + what + ")", x.count(what), counts[what]);
        }
        Check.same("new: best()", x.best(), -1);
        Check.sameDouble("new: patience()", x.patience(), 0.0);
        Check.noSuch("new: tenant(0, 0)", x, () -> x.tenant(0, 0));
        Check.noSuch("new: waiting(0, 0)", x, () -> x.waiting(0, 0));
        Check.noSuch("new: sung(0, 0)", x, () -> x.sung(0, 0));
        DoorbellChoir other = Edge.courtyard(3, 9);
        Check.same("two objects: count(2)", x.count(2), 0);
        Check.same("two objects: count(2) of the other", other.count(2), 3);
    }

    private static void moveIn() {
        DoorbellChoir x = new DoorbellChoir();
        Check.badArgument("moveIn(-1, 0)", x, () -> x.moveIn(-1, 0));
        Check.badArgument("moveIn(88, 0)", x, () -> x.moveIn(88, 0));
        Check.badArgument("moveIn(0, -1)", x, () -> x.moveIn(0, -1));
        Check.badArgument("moveIn(0, 10)", x, () -> x.moveIn(0, 10));
        Check.badArgument("moveIn(least, least)", x, () -> x.moveIn(LEAST, LEAST));
        Check.badArgument("moveIn(most, most)", x, () -> x.moveIn(MOST, MOST));
        Check.same("moveIn(0, 0)", x.moveIn(0, 0), 0);
        Check.same("moveIn(87, 9)", x.moveIn(87, 9), 1);
        for (int i = 2; i < 16; i++) {
            Check.same("moveIn " + i, x.moveIn(i, i % 10), i);
        }
        Check.badState("moveIn(0, 0) with 16", x, () -> x.moveIn(0, 0));
        Check.badArgument("moveIn(88, 0) with 16", x, () -> x.moveIn(88, 0));
        Check.same("count(2) with 16", x.count(2), 16);
    }

    private static void setHour() {
        DoorbellChoir x = Edge.courtyard(1, 9);
        Check.badArgument("setHour(4)", x, () -> x.setHour(4));
        Check.badArgument("setHour(501)", x, () -> x.setHour(501));
        Check.badArgument("setHour(0)", x, () -> x.setHour(0));
        Check.badArgument("setHour(least)", x, () -> x.setHour(LEAST));
        Check.same("setHour(5)", x.setHour(5), 60);
        Check.same("setHour(500)", x.setHour(500), 5);
        Check.same("setHour(7)", x.setHour(7), 500);
        x.pass(27);
        Check.same("hour of 27 by 7", x.count(1), 3);
        x.setHour(9);
        Check.same("hour of 27 by 9", x.count(1), 3);
        x.setHour(10);
        Check.same("hour of 27 by 10", x.count(1), 2);
        x.setHour(5);
        x.pass(97);
        Check.same("hour of 124 by 5", x.count(1), 0);
        x.pass(1);
        Check.same("hour of 125 by 5", x.count(1), 1);
    }

    private static void addHabit() {
        DoorbellChoir x = Edge.courtyard(3, 9);
        Check.noSuch("addHabit(3)", x, () -> x.addHabit(3));
        Check.noSuch("addHabit(-1)", x, () -> x.addHabit(-1));
        for (int i = 1; i <= 8; i++) {
            Check.same("addHabit " + i, x.addHabit(2), i);
        }
        Check.badState("addHabit(2) with 8", x, () -> x.addHabit(2));
        int[] due = {0, 23, 2, 0, 1, 2, 1, 0, 0};
        for (int what = 0; what < due.length; what++) {
            Check.same("a new habit's " + what, x.habit(2, 7, what), due[what]);
        }
        x.ring(2);
        Check.same("the first one was followed", x.habit(2, 0, 8), 1);
        Check.same("the last one was not", x.habit(2, 7, 8), 0);
        Check.same("others have none", x.tenant(1, 3), 0);
        x.dropHabit(2, 0);
        Check.same("addHabit behind a drop", x.addHabit(2), 8);
    }

    private static void setWhen() {
        DoorbellChoir x = Edge.courtyard(2, 9);
        x.addHabit(1);
        Check.noSuch("setWhen of tenant 2", x, () -> x.setWhen(2, 0, 0, 0, 0, 0));
        Check.noSuch("setWhen of tenant -1", x, () -> x.setWhen(-1, 0, 0, 0, 0, 0));
        Check.noSuch("setWhen of habit 1", x, () -> x.setWhen(1, 1, 0, 0, 0, 0));
        Check.noSuch("setWhen of habit -1", x, () -> x.setWhen(1, -1, 0, 0, 0, 0));
        Check.noSuch("setWhen of habit 0 of none", x, () -> x.setWhen(0, 0, 24, 24, 3, 10));
        Check.badArgument("setWhen first -1", x, () -> x.setWhen(1, 0, -1, 0, 0, 0));
        Check.badArgument("setWhen first 24", x, () -> x.setWhen(1, 0, 24, 0, 0, 0));
        Check.badArgument("setWhen last -1", x, () -> x.setWhen(1, 0, 0, -1, 0, 0));
        Check.badArgument("setWhen last 24", x, () -> x.setWhen(1, 0, 0, 24, 0, 0));
        Check.badArgument("setWhen sort -1", x, () -> x.setWhen(1, 0, 0, 0, -1, 0));
        Check.badArgument("setWhen sort 3", x, () -> x.setWhen(1, 0, 0, 0, 3, 0));
        Check.badArgument("setWhen patience -1", x, () -> x.setWhen(1, 0, 0, 0, 0, -1));
        Check.badArgument("setWhen patience 10", x, () -> x.setWhen(1, 0, 0, 0, 0, 10));
        Check.same("setWhen(1, 0, 23, 22, 0, 9)", x.setWhen(1, 0, 23, 22, 0, 9), 2);
        Check.same("setWhen(1, 0, 4, 6, 1, 8)", x.setWhen(1, 0, 4, 6, 1, 8), 0);
        Check.same("setWhen(1, 0, 4, 6, 1, 8) again", x.setWhen(1, 0, 4, 6, 1, 8), 1);
        int[] due = {4, 6, 1, 8, 1, 1, 1, 0, 0};
        for (int what = 0; what < due.length; what++) {
            Check.same("behind setWhen: " + what, x.habit(1, 0, what), due[what]);
        }
    }

    private static void setWhat() {
        DoorbellChoir x = Edge.courtyard(2, 9);
        x.addHabit(1);
        Check.noSuch("setWhat of tenant 2", x, () -> x.setWhat(2, 0, 0, 0, 1, 0));
        Check.noSuch("setWhat of tenant -1", x, () -> x.setWhat(-1, 0, 0, 0, 1, 0));
        Check.noSuch("setWhat of habit 1", x, () -> x.setWhat(1, 1, 0, 0, 1, 0));
        Check.noSuch("setWhat of habit -1", x, () -> x.setWhat(1, -1, 0, 0, 1, 0));
        Check.noSuch("setWhat aim 2", x, () -> x.setWhat(1, 0, 0, 2, 1, 0));
        Check.noSuch("setWhat aim -1", x, () -> x.setWhat(1, 0, 1, -1, 1, 0));
        Check.noSuch("setWhat all wrong", x, () -> x.setWhat(1, 0, 6, 2, 0, 13));
        Check.badArgument("setWhat action -1", x, () -> x.setWhat(1, 0, -1, 0, 1, 0));
        Check.badArgument("setWhat action 6", x, () -> x.setWhat(1, 0, 6, 0, 1, 0));
        Check.badArgument("setWhat delay 0", x, () -> x.setWhat(1, 0, 0, 0, 0, 0));
        Check.badArgument("setWhat delay 100", x, () -> x.setWhat(1, 0, 0, 0, 100, 0));
        Check.badArgument("setWhat shift -13", x, () -> x.setWhat(1, 0, 0, 0, 1, -13));
        Check.badArgument("setWhat shift 13", x, () -> x.setWhat(1, 0, 0, 0, 1, 13));
        Check.same("setWhat(1, 0, 5, 0, 99, 12)", x.setWhat(1, 0, 5, 0, 99, 12), 1);
        Check.same("setWhat(1, 0, 0, 1, 1, -12)", x.setWhat(1, 0, 0, 1, 1, -12), 5);
        Check.same("setWhat(1, 0, 4, 0, 30, -7)", x.setWhat(1, 0, 4, 0, 30, -7), 0);
        int[] due = {0, 23, 2, 0, 4, 0, 30, -7, 0};
        for (int what = 0; what < due.length; what++) {
            Check.same("behind setWhat: " + what, x.habit(1, 0, what), due[what]);
        }
    }

    private static void dropHabit() {
        DoorbellChoir x = Edge.courtyard(2, 9);
        for (int i = 0; i < 4; i++) {
            x.addHabit(0);
            x.setWhat(0, i, 1, 1, 10 + i, 0);
        }
        x.ring(0);
        Check.noSuch("dropHabit(2, 0)", x, () -> x.dropHabit(2, 0));
        Check.noSuch("dropHabit(-1, 0)", x, () -> x.dropHabit(-1, 0));
        Check.noSuch("dropHabit(0, 4)", x, () -> x.dropHabit(0, 4));
        Check.noSuch("dropHabit(0, -1)", x, () -> x.dropHabit(0, -1));
        Check.noSuch("dropHabit(1, 0)", x, () -> x.dropHabit(1, 0));
        Check.same("dropHabit(0, 1)", x.dropHabit(0, 1), 3);
        Check.same("the first one stays", x.habit(0, 0, 6), 10);
        Check.same("how often it was followed too", x.habit(0, 0, 8), 1);
        Check.same("the third one is second", x.habit(0, 1, 6), 12);
        Check.same("the fourth one is third", x.habit(0, 2, 6), 13);
        Check.same("dropHabit(0, 2)", x.dropHabit(0, 2), 2);
        Check.same("dropHabit(0, 0)", x.dropHabit(0, 0), 1);
        Check.same("the one that is left", x.habit(0, 0, 6), 12);
        Check.same("was not followed", x.habit(0, 0, 8), 0);
        Check.same("dropHabit(0, 0), the last one", x.dropHabit(0, 0), 0);
        Check.noSuch("dropHabit(0, 0) of none", x, () -> x.dropHabit(0, 0));
        x.addHabit(0);
        Check.same("a habit added then is a new one", x.habit(0, 0, 6), 1);
    }

    private static void tenant() {
        DoorbellChoir x = Edge.courtyard(1, 9);
        x.moveIn(33, 2);
        x.addHabit(1);
        x.addHabit(1);
        x.setWhat(1, 0, 0, 0, 5, 0);
        x.setWhen(1, 0, 0, 23, 2, 2);
        x.ring(1);
        x.ring(1);
        x.pass(1);
        x.ring(1);
        int[] due = {33, 2, 0, 2, 2, 1};
        for (int what = 0; what < due.length; what++) {
            Check.same("tenant(1, " + what + ")", x.tenant(1, what), due[what]);
        }
        x.emptySongs();
        Check.same("notes it has sung, behind an emptying", x.tenant(1, 5), 1);
        Check.noSuch("tenant(1, 6)", x, () -> x.tenant(1, 6));
        Check.noSuch("tenant(1, -1)", x, () -> x.tenant(1, -1));
        Check.noSuch("tenant(2, 0)", x, () -> x.tenant(2, 0));
        Check.noSuch("tenant(-1, 0)", x, () -> x.tenant(-1, 0));
    }

    private static void habit() {
        DoorbellChoir x = Edge.courtyard(3, 9);
        x.addHabit(0);
        x.addHabit(0);
        x.setWhen(0, 1, 21, 3, 1, 4);
        x.setWhat(0, 1, 3, 2, 17, -9);
        int[] due = {21, 3, 1, 4, 3, 2, 17, -9, 0};
        for (int what = 0; what < due.length; what++) {
            Check.same("habit(0, 1, " + what + ")", x.habit(0, 1, what), due[what]);
        }
        Check.noSuch("habit(0, 0, 9)", x, () -> x.habit(0, 0, 9));
        Check.noSuch("habit(0, 0, -1)", x, () -> x.habit(0, 0, -1));
        Check.noSuch("habit(0, 2, 0)", x, () -> x.habit(0, 2, 0));
        Check.noSuch("habit(0, -1, 0)", x, () -> x.habit(0, -1, 0));
        Check.noSuch("habit(3, 0, 0)", x, () -> x.habit(3, 0, 0));
        Check.noSuch("habit(-1, 0, 0)", x, () -> x.habit(-1, 0, 0));
    }
}
