import java.util.ArrayList;
import java.util.List;

/**
 * Tells two rolls apart by what they answer. A call that is refused must change nothing, so a roll that was asked it has to
 * answer all later calls as its twin does, which was never asked. Both stay below the 512 calls of an object.
 */
final class Twins {
    interface Call {
        long on(SenateRoll x, int[] a);
    }

    private static final class Asked {
        final String name;
        final Call call;
        final int[] told;

        Asked(String name, Call call, int[] told) {
            this.name = name;
            this.call = call;
            this.told = told;
        }
    }

    private static final int LAST = 9999;
    private static final List<Asked> ALL = new ArrayList<>();

    static {
        looks();
        laterCalls();
    }

    private Twins() {
    }

    static String named(String name, int... told) {
        StringBuilder all = new StringBuilder(name).append('(');
        for (int i = 0; i < told.length; i++) {
            all.append(i == 0 ? "" : ", ").append(told[i]);
        }
        return all.append(')').toString();
    }

    static void alike(String what, SenateRoll x, SenateRoll twin) {
        for (Asked one : ALL) {
            long got = one.call.on(x, one.told);
            long due = one.call.on(twin, one.told);
            Check.same(got == due ? what : what + ", then " + named(one.name, one.told), got, due);
        }
    }

    /** Whether the two answer something otherwise. */
    static boolean differ(SenateRoll x, SenateRoll twin) {
        boolean differ = false;
        for (Asked one : ALL) {
            differ |= one.call.on(x, one.told) != one.call.on(twin, one.told);
        }
        return differ;
    }

    private static void ask(String name, Call call, int... told) {
        ALL.add(new Asked(name, call, told));
    }

    private static void looks() {
        ask("digest", (x, a) -> x.digest());
        for (int i = 0; i < 8; i++) {
            ask("count", (x, a) -> x.count(a[0]), i);
            ask("fault", (x, a) -> x.fault(a[0]), i);
        }
        for (int act = 0; act < 12; act++) {
            ask("counts", (x, a) -> x.counts(a[0], a[1]), act, 15);
            ask("counts", (x, a) -> x.counts(a[0], a[1]), act, LAST);
            ask("step", (x, a) -> x.step(a[0], a[1], a[2]), act, 4, act < 6 ? LAST : 20);
        }
        for (int meeting = 0; meeting < 4; meeting++) {
            ask("stands", (x, a) -> x.stands(a[0]), meeting);
            ask("hangs", (x, a) -> x.hangs(a[0], a[1], a[2]), meeting, 100, 20);
        }
        for (int student = 0; student < 3; student++) {
            looksAt(student);
        }
        looksAtRest();
    }

    private static void looksAt(int student) {
        for (int course = 0; course < 4; course++) {
            for (int what = 0; what < 3; what++) {
                ask("outcome", (x, a) -> x.outcome(a[0], a[1], a[2], a[3]), student, course, LAST, what);
            }
        }
        for (int day = 10; day < 300; day += 195) {
            ask("passed", (x, a) -> x.passed(a[0], a[1], a[2]), student, day, LAST);
            ask("grade", (x, a) -> x.grade(a[0], a[1], a[2]), student, day, LAST);
            ask("edge", (x, a) -> x.edge(a[0], a[1], a[2]), student, day, LAST);
            ask("roll", (x, a) -> x.roll(a[0], a[1], a[2]), student, day, 20);
            ask("binds", (x, a) -> x.binds(a[0], a[1]), student, day);
            ask("way", (x, a) -> x.way(a[0], a[1], a[2], a[3], a[4], a[5]), student, 7, 0, 1, day, LAST);
            ask("wayAt", (x, a) -> x.wayAt(a[0], a[1], a[2], a[3], a[4], a[5], a[6]), student, 7, 2, 2, day, LAST, 0);
        }
        ask("number", (x, a) -> x.number(a[0], a[1], a[2], a[3]), student, 10, LAST, 0);
        ask("tells", (x, a) -> x.tells(a[0], a[1], a[2], a[3], a[4]), 1, student, -1, 10, LAST);
        ask("tells", (x, a) -> x.tells(a[0], a[1], a[2], a[3], a[4]), 0, student, 0, 10, LAST);
    }

    private static void looksAtRest() {
        for (int examiner = 0; examiner < 5; examiner++) {
            ask("habit", (x, a) -> x.habit(a[0], a[1], a[2]), examiner, LAST, 2);
            ask("habit", (x, a) -> x.habit(a[0], a[1], a[2]), examiner, LAST, 3);
        }
        ask("hours", (x, a) -> x.hours(a[0], a[1]), 7, 3);
        ask("hourOf", (x, a) -> x.hourOf(a[0], a[1], a[2]), 7, 3, 1);
        for (int sum = 5; sum < 12; sum++) {
            ask("doubt", (x, a) -> x.doubt(a[0], a[1]), sum, 0);
        }
    }

    private static void laterCalls() {
        ask("days", (x, a) -> x.days(a[0]), 40);
        ask("odds", (x, a) -> x.odds(a[0]), 41);
        ask("line", (x, a) -> x.line(a[0], a[1]), 1, 2);
        ask("write", (x, a) -> x.write(a[0], a[1]), 3, 49);
        ask("course", (x, a) -> x.course(a[0], a[1], a[2], a[3]), 7, 0, 7, 7);
        ask("student", (x, a) -> x.student(a[0]), 7);
        ask("board", (x, a) -> x.board(a[0], a[1]), 7, 1);
        ask("meeting", (x, a) -> x.meeting(a[0], a[1], a[2], a[3]), 0, 30, 1023, 3);
        ask("mark", (x, a) -> x.mark(a[0], a[1], a[2], a[3], a[4], a[5]), 0, 0, 90, 0, 3, 3);
        ask("degree", (x, a) -> x.degree(a[0], a[1], a[2]), 0, 0, 30);
        ask("sits", (x, a) -> x.sits(a[0], a[1], true), 0, 2);
        ask("ordain", (x, a) -> x.ordain(a[0], a[1], a[2], false), 0, 0, 4);
        ask("choose", (x, a) -> x.choose(a[0], a[1]), 0, 0);
        ask("digest", (x, a) -> x.digest());
        for (int image = 0; image < 2; image++) {
            ask("from", (x, a) -> x.from(a[0]), image);
            ask("digest", (x, a) -> x.digest());
            ask("doubt", (x, a) -> x.doubt(a[0], a[1]), 8, 0);
            ask("stands", (x, a) -> x.stands(a[0]), 0);
            ask("passed", (x, a) -> x.passed(a[0], a[1], a[2]), 1, 10, LAST);
            ask("habit", (x, a) -> x.habit(a[0], a[1], a[2]), 3, LAST, 0);
        }
        ask("clear", (x, a) -> x.clear());
    }
}
