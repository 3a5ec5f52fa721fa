/** Promises 8 to 18. */
public final class ActsTest {
    private static final int MAX = Integer.MAX_VALUE, MIN = Integer.MIN_VALUE;

    private ActsTest() {
    }

    public static void main(String[] args) {
        marks();
        seconds();
        moderations();
        scales();
        excuses();
        strikes();
        degrees();
        appeals();
        appealDays();
        abouts();
        counting();
        full();
        Check.end("ActsTest");
    }

    /** Two courses, two students, a meeting on day 10 that stands, one on day 20 that does not. */
    private static SenateRoll house() {
        SenateRoll x = new SenateRoll();
        x.course(10, 0, 7, 40);
        x.course(20, 1, 7, 100);
        x.student(0);
        x.student(5);
        x.board(1, 1);
        x.meeting(0, 10, 1, 1);
        x.meeting(0, 20, 1, 0);
        return x;
    }

    private static void tells(SenateRoll x, String promise, int act, int... due) {
        for (int what = 0; what < due.length; what++) {
            Check.same(promise + ": about(" + act + ", " + what + ")", x.about(act, what), due[what]);
        }
    }

    private static void marks() {
        SenateRoll x = house();
        int[][] bad = {
            {-1, 0, 50, 0, 1, 1}, {2, 0, 50, 0, 1, 1}, {0, -1, 50, 0, 1, 1}, {0, 2, 50, 0, 1, 1}, {0, 0, -1, 0, 1, 1},
            {0, 0, 101, 0, 1, 1}, {0, 0, 50, -1, 1, 1}, {0, 0, 50, 5, 1, 1}, {0, 0, 50, 0, -1, 1}, {0, 0, 50, 0, 10000, 10000},
            {0, 0, 50, 0, 2, 1}, {0, 0, 50, 0, 1, 10000}, {0, 0, 50, 0, MIN, MAX}, {MAX, MAX, MAX, MAX, MAX, MAX}
        };
        for (int[] b : bad) {
            Check.same("promise 8: BAD", x.mark(b[0], b[1], b[2], b[3], b[4], b[5]), -2);
        }
        Check.same("promise 8: nothing was told", x.count(4), 0);
        Check.same("promise 8: the first", x.mark(1, 0, 100, 4, 0, 9999), 0);
        Check.same("promise 8: the second", x.mark(0, 1, 0, 0, 9999, 9999), 1);
        tells(x, "promise 8", 0, 0, 0, 9999, -1, 1, 0, -1, 100);
        tells(x, "promise 8", 1, 0, 9999, 9999, -1, 0, 1, -1, 0);
    }

    private static void seconds() {
        SenateRoll x = house();
        x.mark(0, 0, 50, 2, 5, 8);
        int[][] bad = {
            {-1, 50, 0, 5, 5}, {1, 50, 0, 5, 5}, {0, -1, 0, 5, 5}, {0, 101, 0, 5, 5}, {0, 50, -1, 5, 5}, {0, 50, 5, 5, 5},
            {0, 50, 2, 5, 5}, {0, 50, 0, 4, 5}, {0, 50, 0, 6, 5}, {0, 50, 0, 5, 10000}, {0, 50, 0, 10000, 10000},
            {0, 50, 0, MAX, MIN}
        };
        for (int[] b : bad) {
            Check.same("promise 9: BAD", x.second(b[0], b[1], b[2], b[3], b[4]), -2);
        }
        Check.same("promise 9: on its day, known ahead of it", x.second(0, 60, 3, 5, 5), 1);
        Check.same("promise 9: a second is no mark", x.second(1, 60, 4, 6, 6), -2);
        Check.same("promise 9: another, of the same examiner", x.second(0, 61, 3, 7, 9999), 2);
        tells(x, "promise 9", 1, 1, 5, 5, -1, -1, -1, 0, 60);
        tells(x, "promise 9", 2, 1, 7, 9999, -1, -1, -1, 0, 61);
    }

    private static void moderations() {
        SenateRoll x = house();
        x.mark(0, 0, 50, 2, 15, 15);
        int[][] bad = {
            {-1, 50, 0, 10}, {1, 50, 0, 10}, {0, -1, 0, 10}, {0, 101, 0, 10}, {0, 50, -1, 10}, {0, 50, 2, 10}, {0, 50, 0, 9},
            {0, 50, 0, 10000}, {0, 50, 1, 19}, {0, 50, 0, MIN}
        };
        for (int[] b : bad) {
            Check.same("promise 10: BAD", x.moderate(b[0], b[1], b[2], b[3]), -2);
        }
        Check.same("promise 10: by a meeting ahead of the mark", x.moderate(0, 100, 0, 10), 1);
        Check.same("promise 10: by a meeting that does not stand", x.moderate(0, 0, 1, 9999), 2);
        Check.same("promise 10: it is no mark", x.moderate(1, 50, 0, 10), -2);
        tells(x, "promise 10", 1, 2, 10, 10, 0, -1, -1, 0, 100);
        tells(x, "promise 10", 2, 2, 20, 9999, 1, -1, -1, 0, 0);
    }

    private static void scales() {
        SenateRoll x = house();
        int[][] bad = {
            {-1, 1, 1, 0, 0, 10}, {2, 1, 1, 0, 0, 10}, {0, 0, 1, 0, 0, 10}, {0, 201, 1, 0, 0, 10}, {0, 1, 0, 0, 0, 10},
            {0, 1, 201, 0, 0, 10}, {0, 1, 1, -51, 0, 10}, {0, 1, 1, 51, 0, 10}, {0, 1, 1, 0, -1, 10}, {0, 1, 1, 0, 2, 10},
            {0, 1, 1, 0, 0, 9}, {0, 1, 1, 0, 0, 10000}
        };
        for (int[] b : bad) {
            Check.same("promise 11: BAD", x.scale(b[0], b[1], b[2], b[3], b[4], b[5]), -2);
        }
        Check.same("promise 11: least", x.scale(0, 1, 1, -50, 0, 10), 0);
        Check.same("promise 11: greatest", x.scale(1, 200, 200, 50, 1, 9999), 1);
        tells(x, "promise 11", 0, 3, 10, 10, 0, -1, 0, -1, -1);
        tells(x, "promise 11", 1, 3, 20, 9999, 1, -1, 1, -1, -1);
    }

    private static void excuses() {
        SenateRoll x = house();
        int[][] bad = {
            {-1, 0, 0, 10}, {2, 0, 0, 10}, {0, -1, 0, 10}, {0, 2, 0, 10}, {0, 0, -1, 10}, {0, 0, 2, 10}, {0, 0, 0, 9},
            {0, 0, 0, 10000}
        };
        for (int[] b : bad) {
            Check.same("promise 12: BAD", x.excuse(b[0], b[1], b[2], b[3]), -2);
        }
        Check.same("promise 12: excused", x.excuse(1, 0, 0, 11), 0);
        tells(x, "promise 12", 0, 4, 10, 11, 0, 1, 0, -1, -1);
    }

    private static void strikes() {
        SenateRoll x = house();
        Check.same("promise 13: no act", x.strike(0, 0, 10), -2);
        x.mark(0, 0, 50, 0, 500, 600);
        Check.same("promise 13: act -1", x.strike(-1, 0, 10), -2);
        Check.same("promise 13: no meeting", x.strike(0, 2, 10), -2);
        Check.same("promise 13: by none", x.strike(0, -1, 10), -2);
        Check.same("promise 13: known too early", x.strike(0, 0, 9), -2);
        Check.same("promise 13: known too late", x.strike(0, 0, 10000), -2);
        Check.same("promise 13: of an act of a later day", x.strike(0, 0, 10), 1);
        Check.same("promise 13: of a strike", x.strike(1, 1, 20), 2);
        tells(x, "promise 13", 1, 5, 10, 10, 0, -1, -1, 0, -1);
        tells(x, "promise 13", 2, 5, 20, 20, 1, -1, -1, 1, -1);
    }

    private static void degrees() {
        SenateRoll x = house();
        Check.same("promise 14: no student", x.degree(2, 0, 10), -2);
        Check.same("promise 14: student -1", x.degree(-1, 0, 10), -2);
        Check.same("promise 14: no meeting", x.degree(0, 2, 10), -2);
        Check.same("promise 14: known too early", x.degree(0, 0, 9), -2);
        Check.same("promise 14: known too late", x.degree(0, 0, 10000), -2);
        Check.same("promise 14: a degree", x.degree(1, 0, 10), 0);
        tells(x, "promise 14", 0, 6, 10, 10, 0, 1, -1, -1, -1);
    }

    private static void appeals() {
        SenateRoll x = house();
        Check.same("promise 15: no act", x.appeal(0, 10), -2);
        x.excuse(0, 0, 0, 900);
        x.mark(0, 0, 50, 0, 10, 10);
        x.degree(0, 1, 20);
        Check.same("promise 15: act -1", x.appeal(-1, 10), -2);
        Check.same("promise 15: day -1", x.appeal(0, -1), -2);
        Check.same("promise 15: day 10000", x.appeal(0, 10000), -2);
        Check.same("promise 15: an act by none", x.appeal(1, 10), -3);
        Check.same("promise 15: an act of a later day", x.appeal(0, 9), -3);
        Check.same("promise 15: its days are over", x.appeal(0, 41), -3);
        Check.same("promise 15: its last day", x.appeal(0, 40), 3);
        Check.same("promise 15: its first day", x.appeal(0, 10), 4);
        Check.same("promise 15: a meeting that does not stand", x.appeal(2, 25), 5);
        Check.same("promise 15: an appeal is by none", x.appeal(3, 40), -3);
        tells(x, "promise 15", 3, 5, 40, 40, -1, -1, -1, 0, -1);
    }

    private static void appealDays() {
        SenateRoll x = house();
        Check.same("promise 16: -1", x.days(-1), -2);
        Check.same("promise 16: 1001", x.days(1001), -2);
        Check.same("promise 16: at first", x.days(0), 30);
        x.degree(0, 0, 10);
        Check.same("promise 16: no days, the next day", x.appeal(0, 11), -3);
        Check.same("promise 16: no days, on the day", x.appeal(0, 10), 1);
        Check.same("promise 16: the greatest", x.days(1000), 0);
        Check.same("promise 16: a thousand days", x.appeal(0, 1010), 2);
        Check.same("promise 16: a thousand and one", x.appeal(0, 1011), -3);
        Check.same("promise 16: what they were", x.days(7), 1000);
    }

    private static void abouts() {
        SenateRoll x = house();
        Check.same("promise 17: no act", x.about(0, 0), -2);
        x.mark(0, 0, 50, 0, 1, 1);
        Check.same("promise 17: act -1", x.about(-1, 0), -2);
        Check.same("promise 17: act 1", x.about(1, 0), -2);
        Check.same("promise 17: what -1", x.about(0, -1), -2);
        Check.same("promise 17: what 8", x.about(0, 8), -2);
        tells(x, "promise 17", 0, 0, 1, 1, -1, 0, 0, -1, 50);
    }

    private static void counting() {
        SenateRoll x = house();
        Check.same("promise 18: no act", x.counts(0, 5), -2);
        x.mark(0, 0, 50, 0, 5, 8);
        Check.same("promise 18: k -1", x.counts(0, -1), -2);
        Check.same("promise 18: k 10000", x.counts(0, 10000), -2);
        Check.same("promise 18: act 1", x.counts(1, 5), -2);
        Check.same("promise 18: not known yet", x.counts(0, 7), 0);
        Check.same("promise 18: known", x.counts(0, 8), 1);
        x.excuse(0, 0, 0, 12);
        x.excuse(0, 0, 1, 22);
        Check.same("promise 18: by a meeting that stands", x.counts(1, 12), 1);
        Check.same("promise 18: by one that does not", x.counts(2, 9999), 0);
        x.strike(1, 0, 30);
        Check.same("promise 18: not struck yet", x.counts(1, 29), 1);
        Check.same("promise 18: struck", x.counts(1, 30), 0);
        x.strike(3, 0, 40);
        Check.same("promise 18: the strike is struck", x.counts(3, 40), 0);
        Check.same("promise 18: restored", x.counts(1, 40), 1);
        Check.same("promise 18: as known before", x.counts(1, 39), 0);
        x.strike(4, 0, 50);
        Check.same("promise 18: struck once more", x.counts(1, 50), 0);
        x.strike(1, 1, 20);
        Check.same("promise 18: a strike by no standing meeting", x.counts(1, 40), 1);
        x.appeal(1, 15);
        Check.same("promise 18: appealed ahead of being known", x.counts(1, 14), 1);
        Check.same("promise 18: appealed", x.counts(1, 15), 0);
        Check.same("promise 18: two strikes, one restored", x.counts(1, 45), 0);
        x.tear(0, true);
        Check.same("promise 18: all of a void meeting", x.counts(1, 13) + x.counts(3, 35) + x.counts(4, 45), 0);
        x.tear(0, false);
        Check.same("promise 18: and back", x.counts(1, 13), 1);
    }

    private static void full() {
        SenateRoll x = house();
        for (int i = 0; i < 250; i++) {
            Check.same("promise 8: up to 250", x.mark(0, 0, 50, 0, 1, 1), i);
        }
        Check.same("promise 8: full", x.mark(0, 0, 50, 0, 1, 1), -4);
        Check.same("promise 9: full", x.second(0, 50, 1, 1, 1), -4);
        Check.same("promise 10: full", x.moderate(0, 50, 0, 10), -4);
        Check.same("promise 11: full", x.scale(0, 1, 1, 0, 0, 10), -4);
        Check.same("promise 12: full", x.excuse(0, 0, 0, 10), -4);
        Check.same("promise 13: full", x.strike(0, 0, 10), -4);
        Check.same("promise 14: full", x.degree(0, 0, 10), -4);
        Check.same("promise 15: NO ahead of FULL", x.appeal(0, 10), -3);
        Check.same("promise 8: BAD ahead of FULL", x.mark(0, 0, 50, 0, 1, 0), -2);
        Check.same("promise 9: BAD ahead of FULL", x.second(0, 50, 0, 1, 1), -2);
        Check.same("promise 46: 250 acts", x.count(4), 250);
        Check.same("promise 17: the last", x.about(249, 7), 50);
        SenateRoll y = house();
        for (int i = 0; i < 250; i++) {
            y.degree(0, 0, 10);
        }
        Check.same("promise 15: full", y.appeal(0, 10), -4);
    }
}
