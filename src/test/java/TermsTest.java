/** The sentences of "Terms", parts 1 and 2, that name a boundary: each has a test of its own, which bears its words. */
public final class TermsTest {
    private static final int LAST = 9999;

    private TermsTest() {
    }

    public static void main(String[] args) {
        coursesAndStudents();
        credits();
        leaning();
        termsOfAYear();
        caps();
        seatsAndQuorum();
        whoSat();
        knownFrom();
        knownByNoOthers();
        strikesOfStrikes();
        severalStrikes();
        lastSecond();
        lastModerated();
        lastScaled();
        scaledDays();
        halfOfBoth();
        brinksOfScaled();
        stepsLeaveTheNumber();
        secondMarkOn();
        greatestFinal();
        tries();
        excused();
        Check.end("TermsTest");
    }

    /** Two courses that lean on none, two students, a board of one seat that met on the days 10, 20 and 30. */
    private static SenateRoll house(int cap) {
        SenateRoll x = new SenateRoll();
        x.course(10, 0, 7, cap);
        x.course(20, 0, 7, 100);
        x.student(0);
        x.student(0);
        x.board(1, 1);
        x.meeting(0, 10, 1, 1);
        x.meeting(0, 20, 1, 1);
        x.meeting(0, 30, 1, 1);
        return x;
    }

    private static void coursesAndStudents() {
        SenateRoll x = new SenateRoll();
        for (int i = 0; i < 14; i++) {
            Check.same("COURSES 0 .. 13, as they come", x.course(1, 0, 1, 0), i);
            Check.same("COURSES: how many", x.count(0), i + 1);
        }
        for (int i = 0; i < 20; i++) {
            Check.same("STUDENTS 0 .. 19, as they come", x.student(LAST), i);
            Check.same("STUDENTS: how many", x.count(1), i + 1);
        }
        Check.same("COURSES: the last can be told of", x.outcome(19, 13, 0, 1), 0);
        Check.same("COURSES: the one behind it can not", x.outcome(19, 14, 0, 1), -2);
        Check.same("STUDENTS: the one behind the last can not", x.outcome(20, 13, 0, 1), -2);
        for (int i = 0; i < 4; i++) {
            Check.same("BOARDS 0 .. 3, as they come", x.board(1, 1), i);
        }
        for (int i = 0; i < 40; i++) {
            Check.same("MEETINGS 0 .. 39, as they come", x.meeting(i % 4, LAST, 1, i < 7 ? 0 : 1), i);
        }
        Check.same("MEETINGS: the last stands", x.stands(39), 1);
        Check.same("MEETINGS: one behind it is not there", x.stands(40), -2);
        Check.same("MEETINGS that stand", x.count(7), 33);
    }

    private static void credits() {
        SenateRoll x = new SenateRoll();
        x.student(0);
        int due = 0;
        for (int credit : new int[] {1, 60, 2, 59}) {
            int course = x.course(credit, 0, 7, 100);
            x.mark(0, course, 40, 0, 1, 1);
            due += credit;
            Check.same("a CREDIT (1 .. 60), together", x.number(0, 1, 1, 15), due);
        }
        Check.same("the mean by CREDITS", x.number(0, 1, 1, 0), 4000);
    }

    private static void leaning() {
        SenateRoll x = new SenateRoll();
        x.student(0);
        for (int i = 0; i < 14; i++) {
            Check.same("LEAN on itself", x.course(1, 1 << i, 7, 100), -2);
            Check.same("LEAN on others (bits, of lesser numbers): all of them", x.course(1, (1 << i) - 1, 7, 100), i);
        }
        for (int i = 13; i >= 0; i--) {
            Check.same("LEAN: the lesser are not passed", x.passed(0, 1, 1), 0);
            x.mark(0, i, 40, 0, 1, 1);
        }
        Check.same("LEAN: all are passed", x.passed(0, 1, 1), 16383);
    }

    private static void termsOfAYear() {
        SenateRoll x = new SenateRoll();
        x.student(0);
        // Of the terms 1 .. 7: how many till the course is taken, from term 0, 1 and 2 on (behind 2 comes 0).
        int[][] due = {{1, 3, 2}, {2, 1, 3}, {1, 1, 2}, {3, 2, 1}, {1, 2, 1}, {2, 1, 1}, {1, 1, 1}};
        for (int terms = 1; terms <= 7; terms++) {
            int course = x.course(1, 0, terms, 100);
            for (int t = 0; t < 3; t++) {
                Check.same("TERMS 0 .. 2 of a year (bits 1 .. 7): " + terms + " from " + t,
                    x.way(0, 1 << course, t, 1, 0, 0), due[terms - 1][t]);
            }
        }
    }

    private static void caps() {
        int[][] due = {{0, 0, 0}, {1, 1, 1}, {99, 99, 98}, {100, 100, 98}};
        for (int[] one : due) {
            SenateRoll x = house(one[0]);
            x.mark(0, 0, 0, 0, 1, 1);
            x.mark(0, 0, 100, 0, 2, 2);
            x.mark(0, 0, 98, 0, 3, 3);
            x.mark(0, 0, 0, 0, 4, 4);
            Check.same("a CAP of " + one[0] + " (0 .. 100; 100: none), of 100", x.step(1, 4, 9), one[1]);
            Check.same("a CAP of " + one[0] + ", of 98", x.step(2, 4, 9), one[2]);
            Check.same("a CAP of " + one[0] + ", of 0", x.step(3, 4, 9), 0);
            Check.same("a CAP of " + one[0] + ": THE FINAL", x.outcome(0, 0, 9, 0), one[1]);
        }
    }

    private static void seatsAndQuorum() {
        SenateRoll x = new SenateRoll();
        x.board(1023, 10);
        x.board(512, 1);
        x.board(1023, 1);
        x.board(1, 2);
        int[][] told = {{0, 1023, 1023, 1}, {0, 1023, 1022, 0}, {0, 1023, 511, 0}, {0, 1022, 1023, 0}, {0, 511, 1023, 0},
            {1, 512, 512, 1}, {1, 512, 511, 0}, {1, 511, 512, 0}, {1, 0, 512, 0}, {1, 512, 0, 0},
            {2, 1023, 1, 1}, {2, 1023, 512, 1}, {2, 1023, 0, 0}, {3, 1023, 1023, 0}};
        for (int[] one : told) {
            int meeting = x.meeting(one[0], 1, one[1], one[2]);
            Check.same("SEATS 0 .. 9, a QUORUM (1 .. 10): " + Twins.named("meeting", one), x.stands(meeting), one[3]);
        }
        Check.same("MEETINGS that STAND", x.count(7), 4);
    }

    private static void whoSat() {
        SenateRoll x = new SenateRoll();
        x.board(14, 2);
        int[][] told = {{14, 6, 1}, {14, 10, 1}, {14, 14, 1}, {14, 15, 1}, {15, 6, 1}, {14, 2, 0}, {14, 1009 + 2, 0}, {15, 3, 0},
            {12, 14, 0}, {6, 6, 0}};
        for (int[] one : told) {
            int meeting = x.meeting(0, 1, one[0], one[1]);
            Check.same("of these as many as the QUORUM or more SAT: " + Twins.named("called, sat", one),
                x.stands(meeting), one[2]);
        }
        x.tear(0, true);
        Check.same("STANDS, if it is not VOID", x.stands(0), 0);
        Check.same("another one of the same BOARD", x.stands(1), 1);
        Check.same("one that did not STAND can be VOID too", x.tear(5, true), 1);
        Check.same("it does not STAND", x.stands(5), 0);
        Check.same("and not VOID", x.tear(5, false), 1);
        Check.same("it does not STAND either", x.stands(5), 0);
    }

    private static void knownFrom() {
        for (int day : new int[] {0, 1, 9998, LAST}) {
            SenateRoll x = house(100);
            int meeting = x.meeting(0, day, 1, 1);
            Check.same("KNOWN from a DAY no earlier: a day ahead", x.mark(0, 0, 1, 0, day, day - 1), -2);
            Check.same("KNOWN from its DAY on", x.mark(0, 0, 1, 0, day, day), 0);
            Check.same("by a MEETING, a day ahead", x.degree(0, meeting, day - 1), -2);
            Check.same("by a MEETING, on its DAY", x.degree(0, meeting, day), 1);
            Check.same("the ACT's DAY is the MEETING's", x.about(1, 1), day);
            for (int act = 0; act < 2; act++) {
                Check.same("KNOWN by K: the day", x.counts(act, day), 1);
                Check.same("KNOWN by K: the last day", x.counts(act, LAST), 1);
                Check.same("KNOWN by K: the first day", x.counts(act, 0), day == 0 ? 1 : 0);
                Check.same("KNOWN by K: the day ahead", x.counts(act, day - 1), day == 0 ? -2 : 0);
            }
        }
    }

    /** What hangs on an act, as a SECOND on its MARK, COUNTS by itself. */
    private static void knownByNoOthers() {
        SenateRoll x = house(100);
        x.mark(0, 0, 50, 0, 1, 40);
        x.second(0, 56, 1, 2, 5);
        x.moderate(0, 70, 0, 12);
        Check.same("a SECOND is KNOWN ahead of its MARK", x.counts(1, 5), 1);
        Check.same("a MODERATED too", x.counts(2, 12), 1);
        Check.same("the MARK is not", x.counts(0, 39), 0);
        Check.same("its steps: NONE", x.step(0, 2, 39), -1);
        Check.same("its steps, once it COUNTS", x.step(0, 2, 40), 70);
        x.strike(0, 1, 41);
        Check.same("the MARK is STRUCK, the SECOND COUNTS", x.counts(1, 41) * 10 + x.counts(0, 41), 10);
    }

    private static void strikesOfStrikes() {
        SenateRoll x = house(100);
        x.mark(0, 0, 50, 0, 1, 1);
        for (int i = 0; i < 30; i++) {
            x.strike(i, 0, 20 + i);
        }
        for (int k = 19; k < 51; k++) {
            int strikes = Math.min(30, k - 19);
            Check.same("after " + strikes + " STRIKES, each of the one ahead", x.counts(0, k), strikes % 2 == 0 ? 1 : 0);
        }
        Check.same("the last STRIKE", x.counts(30, LAST), 1);
        Check.same("the one it struck", x.counts(29, LAST), 0);
        x.tear(0, true);
        Check.same("by a MEETING that does not STAND: no STRIKE COUNTS", x.counts(1, LAST) + x.counts(30, LAST), 0);
        Check.same("and the MARK does", x.counts(0, LAST), 1);
    }

    private static void severalStrikes() {
        SenateRoll x = house(100);
        x.mark(0, 0, 50, 0, 1, 1);
        x.strike(0, 0, 10);
        x.strike(0, 1, 20);
        x.strike(1, 2, 30);
        Check.same("no STRIKE of it COUNTS: two do", x.counts(0, 20), 0);
        Check.same("no STRIKE of it COUNTS: one does", x.counts(0, 30), 0);
        x.strike(2, 2, 31);
        Check.same("no STRIKE of it COUNTS: none does", x.counts(0, 31), 1);
        Check.same("as KNOWN before", x.counts(0, 30), 0);
        x.tear(2, true);
        Check.same("what struck the STRIKES is by a VOID MEETING", x.counts(0, 31), 0);
        x.tear(0, true);
        Check.same("one of the STRIKES too", x.counts(0, 31), 0);
        x.tear(1, true);
        Check.same("both of them", x.counts(0, 31), 1);
    }

    private static void lastSecond() {
        SenateRoll x = house(100);
        x.mark(0, 0, 50, 0, 1, 1);
        x.second(0, 52, 1, 9, 30);
        x.second(0, 54, 2, 5, 20);
        x.second(0, 56, 1, 2, 10);
        Check.same("the last SECOND that COUNTS: none", x.step(0, 1, 9), 50);
        Check.same("the last SECOND that COUNTS: one", x.step(0, 1, 10), 53);
        Check.same("the last SECOND that COUNTS: by its number, of two", x.step(0, 1, 20), 53);
        Check.same("the last SECOND that COUNTS: by its number, of three", x.step(0, 1, 30), 53);
        x.strike(3, 2, 31);
        Check.same("the last SECOND is STRUCK", x.step(0, 1, 31), 52);
        x.strike(2, 2, 32);
        Check.same("the last but one too", x.step(0, 1, 32), 51);
        x.strike(1, 2, 33);
        Check.same("all are STRUCK", x.step(0, 1, 33), 50);
    }

    private static void lastModerated() {
        SenateRoll x = house(100);
        x.mark(0, 0, 50, 0, 35, 35);
        x.moderate(0, 100, 2, 40);
        x.moderate(0, 0, 0, 39);
        Check.same("the last MODERATED that COUNTS: none", x.step(0, 2, 38), 50);
        Check.same("the last MODERATED that COUNTS, of an earlier DAY than the MARK", x.step(0, 2, 39), 0);
        Check.same("the last MODERATED that COUNTS: by its number, of an earlier DAY", x.step(0, 2, 40), 0);
        x.tear(0, true);
        Check.same("by a VOID MEETING: the other", x.step(0, 2, 40), 100);
        x.tear(2, true);
        Check.same("both by VOID ones", x.step(0, 2, 40), 50);
    }

    private static void lastScaled() {
        SenateRoll x = house(100);
        x.mark(0, 0, 50, 0, 10, 10);
        x.scale(0, 1, 1, 1, 0, 50);
        x.scale(0, 1, 1, 2, 1, 40);
        x.scale(0, 1, 1, 3, 0, 30);
        x.scale(1, 1, 1, 4, 2, 30);
        Check.same("the last SCALED that COUNTS: none", x.step(0, 3, 29), 50);
        Check.same("the last SCALED that COUNTS: one", x.step(0, 3, 30), 53);
        Check.same("the last SCALED that COUNTS: by its number, of a lesser DAY", x.step(0, 3, 40), 53);
        x.strike(3, 0, 50);
        Check.same("the last STRUCK", x.step(0, 3, 50), 52);
        x.tear(1, true);
        Check.same("the one ahead by a VOID MEETING", x.step(0, 3, 50), 51);
        x.tear(0, true);
        Check.same("none", x.step(0, 3, 50), 50);
    }

    private static void scaledDays() {
        for (int day = 18; day <= 22; day++) {
            SenateRoll x = house(100);
            x.mark(0, 0, 50, 0, day, day);
            x.scale(0, 1, 1, 5, 1, 20);
            x.scale(0, 1, 1, 9, 0, 10);
            Check.same("for all MARKS of that DAY or earlier: of the day " + day, x.step(0, 3, 99), day <= 20 ? 55 : 50);
        }
        SenateRoll x = house(100);
        x.mark(0, 0, 50, 0, 10, 10);
        x.mark(1, 0, 50, 0, 10, 12);
        x.mark(0, 1, 50, 0, 10, 10);
        x.scale(0, 1, 1, 5, 0, 11);
        Check.same("of another STUDENT, KNOWN later", x.step(1, 3, 12), 55);
        Check.same("of another COURSE", x.step(2, 3, 12), 50);
    }

    private static void halfOfBoth() {
        int[][] due = {{50, 60, 55}, {60, 50, 55}, {50, 61, 50}, {61, 50, 50}, {50, 51, 50}, {51, 50, 50}, {51, 51, 51},
            {0, 10, 5}, {0, 11, 0}, {11, 0, 0}, {100, 90, 95}, {100, 89, 89}, {89, 100, 89}, {0, 1, 0}, {99, 100, 99},
            {100, 100, 100}, {0, 0, 0}, {0, 100, 0}, {100, 0, 0}, {41, 50, 45}};
        for (int[] one : due) {
            SenateRoll x = house(100);
            x.mark(0, 0, one[0], 0, 1, 1);
            x.second(0, one[1], 4, 1, 1);
            Check.same("half of both, cut, if they differ by 10 or less: " + Twins.named("", one), x.step(0, 1, 1), one[2]);
            Check.same("step 0 is the MARK", x.step(0, 0, 1), one[0]);
        }
    }

    private static void brinksOfScaled() {
        // The number, times, by, and: what comes of it.
        int[][] due = {{50, 1, 1, 50, 100}, {49, 1, 1, 50, 99}, {51, 1, 1, 50, 100}, {50, 1, 1, -50, 0}, {51, 1, 1, -50, 1},
            {49, 1, 1, -50, 0}, {0, 200, 1, 0, 0}, {0, 1, 1, -50, 0}, {0, 1, 1, 50, 50}, {100, 200, 1, 0, 100},
            {100, 1, 200, 0, 0}, {100, 200, 200, 0, 100}, {100, 2, 200, 0, 1}, {99, 2, 200, 0, 0}, {3, 1, 2, 0, 1},
            {3, 1, 2, -1, 0}, {5, 3, 2, 0, 7}, {100, 200, 1, -50, 100}, {1, 100, 1, 0, 100}, {1, 101, 1, 0, 100},
            {1, 101, 1, -1, 100}, {1, 101, 1, -2, 99}, {100, 1, 200, 50, 50}, {100, 199, 200, 0, 99}};
        for (int[] one : due) {
            SenateRoll x = house(100);
            x.mark(0, 0, one[0], 0, 1, 1);
            x.scale(0, one[1], one[2], one[3], 0, 10);
            String what = "times, by (cut toward 0), and; 0 at least, 100 at most: " + Twins.named("", one);
            Check.same(what, x.step(0, 3, 10), one[4]);
            Check.same(what + ", and no CAP", x.step(0, 4, 10), one[4]);
            Check.same("not SCALED yet", x.step(0, 3, 9), one[0]);
        }
    }

    private static void stepsLeaveTheNumber() {
        SenateRoll x = house(40);
        x.mark(0, 0, 30, 0, 1, 1);
        x.mark(0, 0, 77, 0, 2, 2);
        for (int step = 0; step <= 3; step++) {
            Check.same("what is not there leaves the number: step " + step, x.step(1, step, 9), 77);
        }
        Check.same("but the CAP", x.step(1, 4, 9), 40);
        x.scale(0, 11, 10, 0, 0, 10);
        Check.same("SCALED without a SECOND or MODERATED", x.step(1, 3, 10), 84);
        x.moderate(1, 60, 0, 11);
        Check.same("SCALED comes of MODERATED", x.step(1, 3, 11), 66);
        x.second(1, 70, 1, 12, 12);
        Check.same("MODERATED stands in the place of both", x.step(1, 1, 12) * 100 + x.step(1, 2, 12), 7360);
        x.strike(3, 2, 40);
        Check.same("SCALED comes of both", x.step(1, 3, 40), 80);
        Check.same("the CAP at most, behind all steps", x.step(1, 4, 40), 40);
    }

    private static void secondMarkOn() {
        SenateRoll x = house(40);
        x.mark(0, 0, 90, 0, 7, 7);
        x.mark(0, 0, 80, 0, 6, 8);
        x.mark(0, 0, 70, 0, 6, 6);
        x.mark(0, 1, 90, 0, 8, 8);
        x.mark(1, 0, 60, 0, 9, 9);
        Check.same("the first that COUNTS, not KNOWN first", x.step(2, 4, 6), 70);
        Check.same("the second on, by DAYS", x.step(0, 4, 7), 40);
        Check.same("the first by DAYS", x.step(2, 4, 7), 70);
        Check.same("of like ones by numbers: the lesser is the first", x.step(1, 4, 8), 80);
        Check.same("of like ones by numbers: the greater is the second", x.step(2, 4, 8), 40);
        Check.same("the third", x.step(0, 4, 8), 40);
        Check.same("of another COURSE", x.step(3, 4, 9), 90);
        Check.same("of another STUDENT", x.step(4, 4, 9), 60);
        x.strike(1, 1, 20);
        x.strike(2, 1, 21);
        Check.same("one STRUCK: another is the first", x.step(2, 4, 20), 70);
        Check.same("two STRUCK: the last is the first", x.step(0, 4, 21), 90);
    }

    private static void greatestFinal() {
        SenateRoll x = house(40);
        Check.same("THE FINAL: none without MARKS", x.outcome(0, 0, LAST, 0), -1);
        x.mark(0, 0, 0, 0, 5, 5);
        Check.same("THE FINAL: none that COUNTS", x.outcome(0, 0, 4, 0), -1);
        Check.same("THE FINAL of 0", x.outcome(0, 0, 5, 0), 0);
        x.mark(0, 0, 39, 0, 6, 6);
        Check.same("THE FINAL: the greatest, a later one", x.outcome(0, 0, 6, 0), 39);
        x.mark(0, 0, 100, 0, 7, 7);
        Check.same("THE FINAL: the greatest of step 4", x.outcome(0, 0, 7, 0), 40);
        x.mark(0, 0, 45, 0, 4, 8);
        Check.same("THE FINAL: an earlier one", x.outcome(0, 0, 8, 0), 45);
        Check.same("THE FINAL of another COURSE", x.outcome(0, 1, LAST, 0), -1);
        Check.same("THE FINAL of another STUDENT", x.outcome(1, 0, LAST, 0), -1);
    }

    private static void tries() {
        SenateRoll x = house(40);
        for (int i = 0; i < 200; i++) {
            x.mark(0, 0, i % 101, 0, i, i);
        }
        Check.same("TRIES: how many COUNT at 0", x.outcome(0, 0, 0, 1), 1);
        Check.same("TRIES: how many COUNT at 99", x.outcome(0, 0, 99, 1), 100);
        Check.same("TRIES: all", x.outcome(0, 0, 199, 1), 200);
        Check.same("TRIES in another COURSE", x.outcome(0, 1, 199, 1), 0);
        Check.same("TRIES of another STUDENT", x.outcome(1, 0, 199, 1), 0);
        x.strike(0, 0, 199);
        Check.same("TRIES: but the STRUCK", x.outcome(0, 0, 199, 1), 199);
        Check.same("THE FINAL: no CAP for the first that COUNTS", x.step(1, 4, 199), 1);
        Check.same("THE FINAL of 200 MARKS", x.outcome(0, 0, 199, 0), 40);
    }

    private static void excused() {
        SenateRoll x = house(100);
        Check.same("EXCUSED: not", x.outcome(0, 0, LAST, 2), 0);
        x.excuse(0, 0, 0, 15);
        x.excuse(0, 0, 1, 25);
        Check.same("EXCUSED: a day ahead", x.outcome(0, 0, 14, 2), 0);
        Check.same("EXCUSED: KNOWN", x.outcome(0, 0, 15, 2), 1);
        Check.same("EXCUSED twice: 1", x.outcome(0, 0, 25, 2), 1);
        Check.same("EXCUSED in another COURSE", x.outcome(0, 1, LAST, 2), 0);
        Check.same("another STUDENT is EXCUSED", x.outcome(1, 0, LAST, 2), 0);
        Check.same("EXCUSED: it is no TRY", x.outcome(0, 0, LAST, 1), 0);
        Check.same("EXCUSED: it has no FINAL", x.outcome(0, 0, LAST, 0), -1);
        x.strike(0, 2, 35);
        Check.same("EXCUSED: one is STRUCK", x.outcome(0, 0, 35, 2), 1);
        x.tear(1, true);
        Check.same("EXCUSED: the other by a VOID MEETING", x.outcome(0, 0, 35, 2), 0);
        Check.same("EXCUSED: as KNOWN before", x.outcome(0, 0, 34, 2), 1);
    }
}
