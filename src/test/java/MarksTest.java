/** Promises 19 to 26. */
public final class MarksTest {
    private MarksTest() {
    }

    public static void main(String[] args) {
        steps();
        seconds();
        scaling();
        caps();
        outcomes();
        passes();
        grades();
        numbers();
        widest();
        edges();
        rolls();
        hanging();
        Check.end("MarksTest");
    }

    /** Three courses, each leaning on those ahead; two students; a board of one seat and meetings on days 10, 20 and 30. */
    private static SenateRoll house() {
        SenateRoll x = new SenateRoll();
        x.course(10, 0, 7, 40);
        x.course(20, 1, 7, 100);
        x.course(30, 3, 7, 100);
        x.student(0);
        x.student(5);
        x.board(1, 1);
        x.meeting(0, 10, 1, 1);
        x.meeting(0, 20, 1, 1);
        x.meeting(0, 30, 1, 1);
        return x;
    }

    private static void steps() {
        SenateRoll x = house();
        Check.same("promise 19: no mark", x.step(0, 0, 5), -2);
        x.mark(0, 1, 50, 0, 5, 7);
        Check.same("promise 19: step -1", x.step(0, -1, 9), -2);
        Check.same("promise 19: step 5", x.step(0, 5, 9), -2);
        Check.same("promise 19: k -1", x.step(0, 0, -1), -2);
        Check.same("promise 19: k 10000", x.step(0, 0, 10000), -2);
        Check.same("promise 19: it does not count yet", x.step(0, 0, 6), -1);
        for (int step = 0; step <= 4; step++) {
            Check.same("promise 19: nothing but the mark", x.step(0, step, 7), 50);
        }
        x.second(0, 57, 1, 6, 8);
        x.moderate(0, 64, 0, 12);
        x.scale(1, 3, 2, -1, 0, 14);
        Check.same("promise 19: a second is no mark", x.step(1, 0, 9), -2);
        int[][] due = {{50, 50, 50, 50, 50}, {50, 53, 53, 53, 53}, {50, 53, 64, 64, 64}, {50, 53, 64, 95, 95}};
        int[] k = {7, 8, 12, 14};
        for (int i = 0; i < k.length; i++) {
            for (int step = 0; step <= 4; step++) {
                Check.same("promise 19: step " + step + " at " + k[i], x.step(0, step, k[i]), due[i][step]);
            }
        }
        x.moderate(0, 20, 0, 13);
        Check.same("promise 19: the last moderated", x.step(0, 2, 13), 20);
        x.strike(4, 1, 22);
        Check.same("promise 19: the last that counts", x.step(0, 2, 22), 64);
        x.strike(0, 1, 25);
        Check.same("promise 19: struck", x.step(0, 0, 25), -1);
    }

    private static void seconds() {
        int[][] due = {{50, 60, 55}, {50, 61, 50}, {60, 50, 55}, {61, 50, 50}, {50, 53, 51}, {0, 0, 0}, {100, 100, 100}, {0, 10, 5}};
        for (int[] one : due) {
            SenateRoll x = house();
            x.mark(0, 0, one[0], 0, 1, 1);
            x.second(0, one[1], 1, 2, 2);
            Check.same("promise 19: half of both, or the lesser", x.step(0, 1, 9), one[2]);
        }
        SenateRoll x = house();
        x.mark(0, 0, 50, 0, 1, 1);
        x.second(0, 58, 1, 9, 9);
        x.second(0, 52, 2, 2, 3);
        Check.same("promise 19: the last second by its number", x.step(0, 1, 9), 51);
        x.strike(2, 0, 11);
        Check.same("promise 19: the last second that counts", x.step(0, 1, 11), 54);
    }

    private static void scaling() {
        int[][] due = {{7, 3, 2, 0, 10}, {50, 200, 1, 0, 100}, {50, 1, 200, 0, 0}, {10, 1, 1, -50, 0}, {90, 1, 1, 50, 100},
            {99, 2, 3, -6, 60}, {1, 199, 200, 0, 0}};
        for (int[] one : due) {
            SenateRoll x = house();
            x.mark(0, 1, one[0], 0, 1, 1);
            x.scale(1, one[1], one[2], one[3], 0, 10);
            Check.same("promise 19: scaled", x.step(0, 3, 10), one[4]);
        }
        SenateRoll x = house();
        x.mark(0, 1, 50, 0, 10, 10);
        x.mark(0, 1, 50, 0, 11, 11);
        x.scale(1, 1, 1, 1, 1, 20);
        x.scale(1, 1, 1, 2, 0, 10);
        x.scale(0, 1, 1, 9, 2, 30);
        Check.same("promise 19: of the meeting's day, the last", x.step(0, 3, 99), 52);
        Check.same("promise 19: of a later day than the meeting", x.step(1, 3, 99), 51);
        x.strike(3, 2, 40);
        Check.same("promise 19: the last scale that counts", x.step(0, 3, 99), 51);
    }

    private static void caps() {
        SenateRoll x = house();
        x.mark(0, 0, 80, 0, 9, 9);
        x.mark(0, 0, 70, 0, 8, 8);
        x.mark(0, 0, 60, 0, 8, 8);
        x.mark(1, 0, 60, 0, 9, 9);
        Check.same("promise 19: a later day is capped", x.step(0, 4, 9), 40);
        Check.same("promise 19: the first by days is not", x.step(1, 4, 9), 70);
        Check.same("promise 19: of the same day by numbers", x.step(2, 4, 9), 40);
        Check.same("promise 19: step 3 is not capped", x.step(0, 3, 9), 80);
        Check.same("promise 19: of another student", x.step(3, 4, 9), 60);
        x.strike(1, 0, 15);
        Check.same("promise 19: the first struck", x.step(1, 4, 15), -1);
        Check.same("promise 19: another is the first", x.step(2, 4, 15), 60);
        x.mark(0, 1, 30, 0, 1, 1);
        x.mark(0, 1, 99, 0, 2, 2);
        Check.same("promise 19: a cap of 100 is none", x.step(6, 4, 15), 99);
        x.mark(1, 0, 30, 0, 10, 10);
        Check.same("promise 19: less than the cap", x.step(7, 4, 15), 30);
    }

    private static void outcomes() {
        SenateRoll x = house();
        int[][] bad = {{-1, 0, 5, 0}, {2, 0, 5, 0}, {0, -1, 5, 0}, {0, 3, 5, 0}, {0, 0, -1, 0}, {0, 0, 10000, 0}, {0, 0, 5, -1},
            {0, 0, 5, 3}};
        for (int[] b : bad) {
            Check.same("promise 20: BAD", x.outcome(b[0], b[1], b[2], b[3]), -2);
        }
        Check.same("promise 20: no final", x.outcome(0, 0, 9999, 0), -1);
        Check.same("promise 20: no tries", x.outcome(0, 0, 9999, 1), 0);
        Check.same("promise 20: not excused", x.outcome(0, 0, 9999, 2), 0);
        x.mark(0, 0, 0, 0, 5, 5);
        x.mark(0, 0, 90, 1, 6, 7);
        x.excuse(0, 0, 0, 12);
        Check.same("promise 20: a final of 0", x.outcome(0, 0, 6, 0), 0);
        Check.same("promise 20: the greatest, capped", x.outcome(0, 0, 7, 0), 40);
        Check.same("promise 20: one try", x.outcome(0, 0, 6, 1), 1);
        Check.same("promise 20: two tries", x.outcome(0, 0, 7, 1), 2);
        Check.same("promise 20: not yet excused", x.outcome(0, 0, 11, 2), 0);
        Check.same("promise 20: excused", x.outcome(0, 0, 12, 2), 1);
        Check.same("promise 20: not yet, asked once more", x.outcome(0, 0, 11, 2), 0);
        Check.same("promise 20: excused, asked once more", x.outcome(0, 0, 12, 2), 1);
        Check.same("promise 20: of another course", x.outcome(0, 1, 12, 2), 0);
        Check.same("promise 20: of another student", x.outcome(1, 0, 12, 2), 0);
        x.strike(1, 0, 13);
        Check.same("promise 20: a struck mark is no try", x.outcome(0, 0, 13, 1), 1);
    }

    private static void passes() {
        SenateRoll x = house();
        int[][] bad = {{-1, 5, 5}, {2, 5, 5}, {0, -1, 5}, {0, 10000, 5}, {0, 5, -1}, {0, 5, 10000}};
        for (int[] b : bad) {
            Check.same("promise 21: BAD", x.passed(b[0], b[1], b[2]), -2);
            Check.same("promise 22: BAD", x.grade(b[0], b[1], b[2]), -2);
            Check.same("promise 23: BAD", x.number(b[0], b[1], b[2], 0), -2);
            Check.same("promise 24: BAD", x.edge(b[0], b[1], b[2]), -2);
            Check.same("promise 25: BAD", x.roll(b[0], b[1], b[2]), -2);
        }
        x.mark(0, 1, 100, 0, 1, 1);
        x.mark(0, 2, 100, 0, 1, 1);
        Check.same("promise 21: what they lean on is not passed", x.passed(0, 5, 9), 0);
        x.mark(0, 0, 39, 0, 2, 2);
        Check.same("promise 21: 39", x.passed(0, 5, 9), 0);
        x.mark(0, 0, 40, 0, 3, 4);
        Check.same("promise 21: 40, and all that leans", x.passed(0, 0, 4), 7);
        Check.same("promise 21: as known before", x.passed(0, 9999, 3), 0);
        Check.same("promise 21: another student", x.passed(1, 5, 9), 0);
    }

    private static void grades() {
        SenateRoll x = new SenateRoll();
        x.student(0);
        Check.same("promise 22: without courses", x.grade(0, 1, 1), 0);
        x.course(9, 0, 7, 100);
        x.course(10, 0, 7, 100);
        x.course(60, 0, 7, 100);
        x.course(60, 0, 7, 100);
        x.mark(0, 0, 40, 0, 1, 1);
        Check.same("promise 22: 9 by 10", x.grade(0, 1, 1), 0);
        x.mark(0, 1, 40, 0, 2, 2);
        Check.same("promise 22: 19 by 10", x.grade(0, 1, 2), 1);
        x.mark(0, 2, 40, 0, 3, 3);
        Check.same("promise 22: 79 by 10", x.grade(0, 1, 3), 7);
        x.mark(0, 3, 40, 0, 4, 4);
        Check.same("promise 22: 9 at most", x.grade(0, 1, 4), 9);
        Texts.put(x, 0, "1");
        Texts.put(x, 1, "-5");
        Texts.put(x, 2, "999999*999999");
        x.ordain(0, 1, 100, true);
        x.ordain(0, 2, 200, true);
        Check.same("promise 22: before the ordinance", x.grade(0, 99, 4), 9);
        Check.same("promise 22: 0 at least", x.grade(0, 100, 4), 0);
        Check.same("promise 22: a great number", x.grade(0, 200, 4), 9);
    }

    private static void numbers() {
        SenateRoll x = house();
        Check.same("promise 23: what -1", x.number(0, 5, 5, -1), -2);
        Check.same("promise 23: what 16", x.number(0, 5, 5, 16), -2);
        for (int what = 0; what <= 15; what++) {
            Check.same("promise 23: nothing passed", x.number(0, 5, 5, what), 0);
        }
        x.mark(0, 0, 41, 0, 1, 1);
        x.mark(0, 1, 90, 0, 1, 1);
        x.mark(0, 2, 50, 0, 1, 1);
        Check.same("promise 23: mean", x.number(0, 5, 5, 0), (41 * 10 + 90 * 20 + 50 * 30) * 100 / 60);
        Check.same("promise 23: best 1", x.number(0, 5, 5, 1), 9000);
        Check.same("promise 23: best 2", x.number(0, 5, 5, 2), 7000);
        Check.same("promise 23: best 3", x.number(0, 5, 5, 3), 18100 / 3);
        Check.same("promise 23: fewer are passed", x.number(0, 5, 5, 4), 0);
        Check.same("promise 23: best 14", x.number(0, 5, 5, 14), 0);
        Check.same("promise 23: credit", x.number(0, 5, 5, 15), 60);
        Texts.put(x, 0, "course > 0");
        Texts.put(x, 1, "0");
        x.ordain(0, 1, 0, true);
        Check.same("promise 23: passed without a final", x.number(1, 5, 5, 15), 50);
        Check.same("promise 23: best of none", x.number(1, 5, 5, 2), 0);
        x.mark(1, 1, 30, 0, 1, 1);
        Check.same("promise 23: mean with a course without a final", x.number(1, 5, 5, 0), 30 * 20 * 100 / 50);
        Check.same("promise 23: best with a course without a final", x.number(1, 5, 5, 2), 1500);
    }

    /** The last student and the last course, and all courses passed. */
    private static void widest() {
        SenateRoll x = new SenateRoll();
        for (int i = 0; i < 20; i++) {
            x.student(i);
        }
        for (int i = 0; i < 14; i++) {
            x.course(i + 1, 0, 7, 100);
            x.mark(19, i, 40 + (i * 5) % 14, 0, 1, 1);
        }
        x.board(1, 1);
        x.meeting(0, 10, 1, 1);
        x.excuse(19, 13, 0, 10);
        Check.same("promise 20: the last of all", x.outcome(19, 13, 9999, 0), 40 + 65 % 14);
        Check.same("promise 20: tries of the last", x.outcome(19, 13, 9999, 1), 1);
        Check.same("promise 20: excused, the last", x.outcome(19, 13, 9999, 2), 1);
        Check.same("promise 20: the last but one", x.outcome(18, 13, 9999, 1), 0);
        Check.same("promise 21: all courses", x.passed(19, 5, 9999), 16383);
        for (int n = 1; n <= 14; n++) {
            int together = 0;
            for (int i = 0; i < n; i++) {
                together += 53 - i;
            }
            Check.same("promise 23: best " + n + " of 14", x.number(19, 5, 9999, n), together * 100 / n);
        }
        Check.same("promise 23: credit of all", x.number(19, 5, 9999, 15), 105);
        x.moderate(0, 30, 0, 10);
        Check.same("promise 26: the last student", x.hangs(0, 5, 9999), 1 << 19);
    }

    private static void edges() {
        SenateRoll x = house();
        x.mark(0, 0, 41, 0, 1, 1);
        Check.same("promise 24: credit by 10 has none", x.edge(0, 5, 5), -1);
        Texts.put(x, 0, "mark > 39");
        String[] classes = {"mean / 1000", "best 1 > 4100", "best 2 > 1999", "best 2 > 2000", "1 if mean > 6099 else 0", "mean",
            "-mean", "mean - 4109", "4109 - mean", "passed", "best best 1", "mean = 4107", "mean < 4500 if best 9 else 1"};
        int[] due = {900, 1, 2000, -1, 2000, -1, -1, 10, 1, -1, 1, 7, 400};
        for (int i = 0; i < classes.length; i++) {
            Texts.put(x, 1, classes[i]);
            if (i % 9 == 0 && i > 0) {
                x = house();
                x.mark(0, 0, 41, 0, 1, 1);
                Texts.put(x, 0, "mark > 39");
                Texts.put(x, 1, classes[i]);
            }
            x.choose(0, x.ordain(0, 1, 9999, false));
            Check.same("promise 24: the edge of " + classes[i], x.edge(0, 5, 5), due[i]);
        }
    }

    private static void rolls() {
        SenateRoll x = house();
        Check.same("promise 25: without a degree", x.roll(0, 9999, 9999), -1);
        x.mark(0, 0, 41, 0, 1, 1);
        x.degree(0, 1, 25);
        Check.same("promise 25: not known yet", x.roll(0, 9999, 24), -1);
        Check.same("promise 25: known", x.roll(0, 9999, 25), 1);
        Check.same("promise 25: ahead of its day", x.roll(0, 19, 25), -1);
        Check.same("promise 25: on its day", x.roll(0, 20, 25), 1);
        Check.same("promise 25: another student", x.roll(1, 9999, 25), -1);
        Texts.put(x, 0, "1");
        Texts.put(x, 1, "5");
        Texts.put(x, 2, "6");
        x.ordain(0, 1, 20, true);
        x.ordain(0, 2, 30, true);
        Check.same("promise 25: the class on the degree's day", x.roll(0, 9999, 25), 5);
        x.degree(0, 2, 30);
        x.degree(0, 0, 10);
        Check.same("promise 25: the latest by days", x.roll(0, 9999, 30), 6);
        Check.same("promise 25: the latest of that day or earlier", x.roll(0, 29, 30), 5);
        Check.same("promise 25: the earliest", x.roll(0, 19, 30), 1);
        x.strike(2, 2, 40);
        Check.same("promise 25: the latest struck", x.roll(0, 9999, 40), 5);
    }

    private static void hanging() {
        SenateRoll x = house();
        Check.same("promise 26: no meeting", x.hangs(3, 5, 5), -2);
        Check.same("promise 26: meeting -1", x.hangs(-1, 5, 5), -2);
        Check.same("promise 26: day -1", x.hangs(0, -1, 5), -2);
        Check.same("promise 26: day 10000", x.hangs(0, 10000, 5), -2);
        Check.same("promise 26: k -1", x.hangs(0, 5, -1), -2);
        Check.same("promise 26: k 10000", x.hangs(0, 5, 10000), -2);
        Check.same("promise 26: nothing hangs", x.hangs(0, 5, 9999), 0);
        x.mark(0, 0, 30, 0, 1, 1);
        x.mark(1, 0, 60, 0, 1, 1);
        x.moderate(0, 50, 0, 10);
        Check.same("promise 26: a course passed", x.hangs(0, 5, 10), 1);
        Check.same("promise 26: as known before", x.hangs(0, 5, 9), 0);
        x.degree(1, 1, 20);
        Check.same("promise 26: a roll", x.hangs(1, 20, 20), 2);
        Check.same("promise 26: a roll of a later day", x.hangs(1, 19, 20), 0);
        x.strike(2, 1, 25);
        Check.same("promise 26: a strike", x.hangs(1, 19, 25), 1);
        Check.same("promise 26: the struck", x.hangs(0, 19, 25), 0);
        Texts.put(x, 0, "1");
        Texts.put(x, 1, "best 1 / 1000");
        x.ordain(0, 1, 0, true);
        Check.same("promise 26: a class alone", x.hangs(0, 5, 10), 1);
        x.tear(0, true);
        Check.same("promise 26: it does not stand", x.hangs(0, 5, 10), -3);
        Check.same("promise 26: BAD ahead of NO", x.hangs(0, -1, 10), -2);
        x.tear(0, false);
        Check.same("promise 26: and nothing was changed by asking", x.hangs(0, 5, 10), 1);
    }
}
