/** Promises 34 to 43. */
public final class WaysTest {
    private static final int MAX = Integer.MAX_VALUE;

    private WaysTest() {
    }

    public static void main(String[] args) {
        badWays();
        ways();
        greatestRow();
        mixedWay();
        longWay();
        widestWay();
        sitting();
        hours();
        firstRow();
        habits();
        hardHabits();
        manyPairs();
        odds();
        lines();
        doubts();
        Check.end("WaysTest");
    }

    private static void badWays() {
        SenateRoll x = new SenateRoll();
        x.course(10, 0, 7, 100);
        x.student(0);
        int[][] bad = {{-1, 1, 0, 1, 5, 5}, {1, 1, 0, 1, 5, 5}, {0, -1, 0, 1, 5, 5}, {0, 2, 0, 1, 5, 5}, {0, 1, -1, 1, 5, 5},
            {0, 1, 3, 1, 5, 5}, {0, 1, 0, 0, 5, 5}, {0, 1, 0, 5, 5, 5}, {0, 1, 0, 1, -1, 5}, {0, 1, 0, 1, 10000, 5},
            {0, 1, 0, 1, 5, -1}, {0, 1, 0, 1, 5, 10000}, {0, MAX, 0, 1, 5, 5}};
        for (int[] b : bad) {
            Check.same("promise 34: BAD", x.way(b[0], b[1], b[2], b[3], b[4], b[5]), -2);
            Check.same("promise 35: BAD", x.wayAt(b[0], b[1], b[2], b[3], b[4], b[5], 0), -2);
        }
        Check.same("promise 35: i -1", x.wayAt(0, 1, 0, 1, 5, 5, -1), -2);
        Check.same("promise 34: to none", x.way(0, 0, 2, 4, 5, 5), 0);
        Check.same("promise 35: to none", x.wayAt(0, 0, 2, 4, 5, 5, 0), -1);
        Check.same("promise 34: to one", x.way(0, 1, 2, 4, 5, 5), 1);
        Check.same("promise 35: its set", x.wayAt(0, 1, 2, 4, 5, 5, 0), 1);
        Check.same("promise 35: not so many", x.wayAt(0, 1, 2, 4, 5, 5, 1), -1);
        Check.same("promise 35: far behind", x.wayAt(0, 1, 2, 4, 5, 5, MAX), -1);
    }

    private static void way(SenateRoll x, int courses, int term, int n, int... due) {
        Check.same("promise 34: terms", x.way(0, courses, term, n, 5, 9), due.length);
        for (int i = 0; i < due.length; i++) {
            Check.same("promise 35: the set of term " + i, x.wayAt(0, courses, term, n, 5, 9, i), due[i]);
        }
        Check.same("promise 35: behind the last", x.wayAt(0, courses, term, n, 5, 9, due.length), -1);
    }

    private static void ways() {
        SenateRoll x = new SenateRoll();
        x.course(10, 0, 7, 100);
        x.course(10, 1, 1, 100);
        x.course(10, 2, 4, 100);
        x.course(10, 0, 2, 100);
        x.student(0);
        way(x, 4, 0, 4, 1, 0, 0, 2, 0, 4);
        way(x, 4, 2, 4, 1, 2, 0, 4);
        way(x, 4, 1, 4, 1, 0, 2, 0, 4);
        way(x, 8, 2, 1, 0, 0, 8);
        way(x, 9, 0, 1, 1, 8);
        way(x, 9, 1, 1, 8, 1);
        way(x, 15, 2, 4, 1, 2, 8, 4);
        x.mark(0, 0, 50, 0, 1, 9);
        way(x, 4, 0, 4, 2, 0, 4);
        way(x, 1, 0, 4);
        Check.same("promise 34: as known before", x.way(0, 1, 0, 4, 5, 8), 1);
    }

    private static void greatestRow() {
        SenateRoll x = new SenateRoll();
        for (int i = 0; i < 6; i++) {
            x.course(10, 0, 7, 100);
        }
        x.student(0);
        way(x, 63, 0, 4, 60, 3);
        way(x, 63, 0, 1, 32, 16, 8, 4, 2, 1);
        way(x, 21, 0, 2, 20, 1);
        x.course(10, 1, 7, 100);
        x.course(10, 64, 7, 100);
        // The greatest set would leave course 0, on which the last two lean, to the next term.
        way(x, 63 + 128, 0, 4, 57, 70, 128);
        // Course 0 is taken with the greatest others; only then is the last ready in three.
        way(x, 128, 0, 4, 1, 64, 128);
    }

    /** Two rows that lean one on the other, and others that are taught in one term alone. */
    private static void mixedWay() {
        SenateRoll x = new SenateRoll();
        x.course(1, 0, 1, 100);
        x.course(1, 1, 2, 100);
        x.course(1, 2, 4, 100);
        x.course(1, 4, 1, 100);
        x.course(1, 0, 7, 100);
        x.course(1, 16, 7, 100);
        x.course(1, 32, 7, 100);
        x.course(1, 0, 1, 100);
        x.student(0);
        way(x, 255, 0, 2, 129, 18, 36, 72);
        way(x, 255, 0, 1, 128, 16, 32, 1, 2, 4, 72 - 64, 64);
        way(x, 255, 1, 1, 16, 32, 128, 64, 0, 1, 2, 4, 8);
    }

    private static void longWay() {
        SenateRoll x = new SenateRoll();
        for (int i = 0; i < 14; i++) {
            x.course(1, i == 0 ? 0 : 1 << (i - 1), 1, 100);
        }
        x.student(0);
        Check.same("promise 34: the longest way", x.way(0, 1 << 13, 1, 4, 5, 5), 42);
        Check.same("promise 35: its second term", x.wayAt(0, 1 << 13, 1, 4, 5, 5, 1), 0);
        Check.same("promise 35: its third term", x.wayAt(0, 1 << 13, 1, 4, 5, 5, 2), 1);
        Check.same("promise 35: its last term", x.wayAt(0, 1 << 13, 1, 4, 5, 5, 41), 1 << 13);
        Check.same("promise 35: behind it", x.wayAt(0, 1 << 13, 1, 4, 5, 5, 42), -1);
    }

    private static void widestWay() {
        SenateRoll x = new SenateRoll();
        for (int i = 0; i < 14; i++) {
            x.course(1, 0, 1 + i % 7, 100);
        }
        x.student(0);
        for (int n = 1; n <= 4; n++) {
            int taken = 0;
            int terms = x.way(0, 16383, 0, n, 5, 5);
            for (int i = 0; i < terms; i++) {
                int set = x.wayAt(0, 16383, 0, n, 5, 5, i);
                Check.same("promise 35: no more than n", Integer.bitCount(set) <= n ? 1 : 0, 1);
                Check.same("promise 35: none twice", set & taken, 0);
                taken |= set;
            }
            Check.same("promise 35: all are taken", taken, 16383);
        }
    }

    private static void sitting() {
        SenateRoll x = new SenateRoll();
        x.course(10, 0, 7, 100);
        x.student(0);
        Check.same("promise 36: student -1", x.sits(-1, 0, true), -2);
        Check.same("promise 36: student 1", x.sits(1, 0, true), -2);
        Check.same("promise 36: course -1", x.sits(0, -1, true), -2);
        Check.same("promise 36: course 1", x.sits(0, 1, true), -2);
        Check.same("promise 36: not sitting already", x.sits(0, 0, false), -3);
        Check.same("promise 36: sitting", x.sits(0, 0, true), 1);
        Check.same("promise 36: sitting already", x.sits(0, 0, true), -3);
        Check.same("promise 36: not any more", x.sits(0, 0, false), 1);
        Check.same("promise 36: and again", x.sits(0, 0, true), 1);
    }

    private static SenateRoll papers(int courses, String... sitting) {
        SenateRoll x = new SenateRoll();
        for (int i = 0; i < courses; i++) {
            x.course(10, 0, 7, 100);
        }
        for (int s = 0; s < sitting.length; s++) {
            x.student(0);
            for (int i = 0; i < sitting[s].length(); i++) {
                x.sits(s, sitting[s].charAt(i) - 'a', true);
            }
        }
        return x;
    }

    private static void hours() {
        SenateRoll x = papers(10, "abc", "cd", "d", "");
        Check.same("promise 37: papers -1", x.hours(-1, 5), -2);
        Check.same("promise 37: papers that are none", x.hours(1024, 5), -2);
        Check.same("promise 37: seats 0", x.hours(1, 0), -2);
        Check.same("promise 37: seats 201", x.hours(1, 201), -2);
        Check.same("promise 37: ten papers", x.hours(1023, 200), -3);
        Check.same("promise 37: BAD ahead of NO", x.hours(1023, 0), -2);
        Check.same("promise 37: nine papers", x.hours(511, 200), 3);
        Check.same("promise 37: none", x.hours(0, 1), 0);
        Check.same("promise 37: one that none sits", x.hours(512, 1), 1);
        Check.same("promise 37: too few seats", x.hours(8, 1), -1);
        Check.same("promise 37: just enough", x.hours(8, 2), 1);
        Check.same("promise 37: two with a student in both", x.hours(12, 200), 2);
        Check.same("promise 37: two without", x.hours(9, 200), 1);
        Check.same("promise 37: two that fill the seats", x.hours(9, 3), 1);
        Check.same("promise 37: two that do not fit", x.hours(9, 2), 2);
        Check.same("promise 38: not one of them", x.hourOf(9, 2, 1), -2);
        Check.same("promise 38: course -1", x.hourOf(9, 2, -1), -2);
        Check.same("promise 38: course 10", x.hourOf(9, 2, 10), -2);
        Check.same("promise 38: course 32", x.hourOf(1, 2, 32), -2);
        Check.same("promise 38: papers -1", x.hourOf(-1, 2, 0), -2);
        Check.same("promise 38: seats 0", x.hourOf(1, 0, 0), -2);
        Check.same("promise 38: ten papers", x.hourOf(1023, 200, 0), -3);
        Check.same("promise 38: not one of ten", x.hourOf(1023, 200, 12), -2);
        Check.same("promise 38: too few seats", x.hourOf(9, 1, 0), -1);
        Check.same("promise 38: the first", x.hourOf(9, 2, 0), 0);
        Check.same("promise 38: the other", x.hourOf(9, 2, 3), 1);
    }

    private static void firstRow(SenateRoll x, int papers, int seats, String due) {
        int at = 0;
        for (int course = 0; course < 14; course++) {
            if ((papers >> course & 1) == 1) {
                Check.same("promise 38: the hour of " + course, x.hourOf(papers, seats, course), due.charAt(at) - '0');
                at++;
            }
        }
    }

    private static void firstRow() {
        firstRow(papers(9, "abcdefghi"), 511, 200, "012345678");
        firstRow(papers(4, "ab", "cd"), 15, 200, "0101");
        firstRow(papers(4, "ab", "ac", "ad"), 15, 200, "0111");
        firstRow(papers(4, "ac", "bd", "cb"), 15, 200, "0011");
        // Sitters 3, 2, 1, 1, 1, 1, three in an hour.
        firstRow(papers(6, "a", "a", "a", "b", "b", "c", "d", "e", "f"), 63, 3, "011222");
        // Sitters 2, 2, 1, 1, three in an hour.
        firstRow(papers(4, "a", "a", "b", "b", "c", "d"), 15, 3, "0101");
        // Sitters 1, 2, 2, 2, 1, four in an hour: both hours are full.
        firstRow(papers(5, "a", "b", "b", "c", "c", "d", "d", "e"), 31, 4, "00110");
        // Sitters 1, 1, 2, 2, three in an hour: the first two together would leave two hours for the rest.
        firstRow(papers(4, "a", "b", "c", "c", "d", "d"), 15, 3, "0101");
        // Only some of the papers: the hours go by the courses that are asked for.
        firstRow(papers(5, "bd", "de"), 26, 200, "010");
    }

    private static SenateRoll marks() {
        SenateRoll x = new SenateRoll();
        x.course(10, 0, 7, 100);
        x.student(0);
        x.board(1, 1);
        x.meeting(0, 10, 1, 1);
        return x;
    }

    private static void habit(SenateRoll x, int examiner, int k, int n, int p, int mean) {
        Check.same("promise 39: n", x.habit(examiner, k, 0), n);
        Check.same("promise 39: p", x.habit(examiner, k, 1), p);
        Check.same("promise 39: the mean more", x.habit(examiner, k, 2), mean);
    }

    private static void habits() {
        SenateRoll x = marks();
        Check.same("promise 39: examiner -1", x.habit(-1, 5, 0), -1000);
        Check.same("promise 39: examiner 5", x.habit(5, 5, 0), -1000);
        Check.same("promise 39: k -1", x.habit(0, -1, 0), -1000);
        Check.same("promise 39: k 10000", x.habit(0, 10000, 0), -1000);
        Check.same("promise 39: what -1", x.habit(0, 5, -1), -1000);
        Check.same("promise 39: what 4", x.habit(0, 5, 4), -1000);
        habit(x, 0, 9999, 0, 0, 0);
        x.mark(0, 0, 60, 0, 1, 1);
        habit(x, 0, 9999, 0, 0, 0);
        x.second(0, 55, 1, 2, 2);
        habit(x, 0, 1, 0, 0, 0);
        habit(x, 0, 2, 1, 1, 5);
        habit(x, 1, 2, 1, 0, -5);
        x.second(0, 63, 2, 3, 3);
        habit(x, 0, 3, 1, 0, -3);
        habit(x, 1, 3, 1, 0, -5);
        habit(x, 2, 3, 1, 1, 3);
        x.mark(0, 0, 60, 0, 4, 4);
        x.second(3, 60, 2, 5, 5);
        habit(x, 0, 5, 1, 0, -1);
        habit(x, 2, 5, 1, 1, 1);
        x.mark(0, 0, 60, 2, 6, 6);
        x.second(5, 50, 0, 6, 6);
        habit(x, 0, 6, 2, 0, -4);
        habit(x, 2, 6, 2, 2, 4);
        x.strike(2, 0, 15);
        habit(x, 0, 15, 2, 1, -1);
        habit(x, 2, 15, 1, 1, 5);
        x.strike(5, 0, 16);
        habit(x, 0, 16, 2, 1, -1);
        habit(x, 2, 16, 0, 0, 0);
    }

    /** As many pairs as told, all by the examiners 0 and 1, of which 0 told more in so many. */
    private static SenateRoll pairs(int n, int more) {
        SenateRoll x = marks();
        for (int i = 0; i < n; i++) {
            x.mark(0, 0, 50, 0, 1, 1);
            x.second(2 * i, i < more ? 40 : 60, 1, 1, 1);
        }
        return x;
    }

    private static void hard(SenateRoll x, int examiner, int odds, int due) {
        x.odds(odds);
        Check.same("promise 39: hard by " + odds, x.habit(examiner, 9, 3), due);
    }

    private static void hardHabits() {
        // Two examiners: the chance times 4. Of ten all: 4 / 1024 is 1 by 256.
        for (int more : new int[] {0, 10}) {
            SenateRoll x = pairs(10, more);
            hard(x, 0, 255, 1);
            hard(x, 0, 256, 1);
            hard(x, 0, 257, 0);
            hard(x, 1, 256, 1);
            hard(x, 1, 257, 0);
            hard(x, 2, 1, 0);
        }
        // Nine or more of ten: 11 * 4 / 1024 is between 1 by 23 and 1 by 24.
        hard(pairs(10, 9), 0, 23, 1);
        hard(pairs(10, 9), 0, 24, 0);
        hard(pairs(10, 1), 0, 23, 1);
        hard(pairs(10, 1), 0, 24, 0);
        hard(pairs(10, 5), 0, 1, 0);
        hard(pairs(1, 1), 0, 1, 0);
        hard(pairs(2, 2), 0, 1, 1);
        hard(pairs(2, 2), 0, 2, 0);
        SenateRoll x = pairs(10, 10);
        x.mark(0, 0, 50, 2, 1, 1);
        x.second(20, 40, 3, 1, 1);
        // Two more examiners that differ: the chance times 8.
        hard(x, 0, 128, 1);
        hard(x, 0, 129, 0);
        // None differs, so the chance is taken no times: the words make it hard.
        hard(marks(), 0, 10000, 1);
    }

    private static void manyPairs() {
        for (int more : new int[] {124, 60, 100, 30, 62, 80, 79, 78, 44, 45}) {
            SenateRoll x = pairs(124, more);
            java.math.BigInteger chance = Model.ways(124, Math.max(more, 124 - more)).multiply(java.math.BigInteger.valueOf(4));
            for (int odds : new int[] {1, 2, 20, 100, 300, 10000}) {
                java.math.BigInteger held = chance.multiply(java.math.BigInteger.valueOf(odds));
                hard(x, 0, odds, held.compareTo(java.math.BigInteger.ONE.shiftLeft(124)) <= 0 ? 1 : 0);
            }
        }
    }

    private static void odds() {
        SenateRoll x = new SenateRoll();
        Check.same("promise 40: 0", x.odds(0), -2);
        Check.same("promise 40: 10001", x.odds(10001), -2);
        Check.same("promise 40: at first", x.odds(10000), 20);
        Check.same("promise 40: the greatest", x.odds(1), 10000);
        Check.same("promise 40: the least", x.odds(1), 1);
    }

    private static void lines() {
        SenateRoll x = new SenateRoll();
        Check.same("promise 41: first -1", x.line(-1, 0), -2);
        Check.same("promise 41: first 1001", x.line(1001, 0), -2);
        Check.same("promise 41: second -1", x.line(0, -1), -2);
        Check.same("promise 41: second 1001", x.line(0, 1001), -2);
        for (int i = 1; i <= 12; i++) {
            Check.same("promise 41: how many", x.line(1000, 0), i);
        }
        Check.same("promise 41: full", x.line(0, 0), -4);
        Check.same("promise 41: BAD ahead of FULL", x.line(0, 1001), -2);
        Check.same("promise 46: lines", x.count(6), 12);
        Check.same("promise 43: the greatest sum", x.doubt(12000, 0), 0);
        Check.same("promise 43: all lines", x.doubt(0, 0), 4095);
        Check.same("promise 43: six of twelve", x.doubt(6000, 0), 63);
        Check.same("promise 43: the rivals of six of twelve", x.doubt(6000, 1), 923);
        Check.same("promise 42: how many there were", x.clear(), 12);
        Check.same("promise 42: none any more", x.clear(), 0);
        Check.same("promise 41: from the start again", x.line(0, 0), 1);
    }

    private static void doubts() {
        SenateRoll x = new SenateRoll();
        Check.same("promise 43: sum -1", x.doubt(-1, 0), -2);
        Check.same("promise 43: sum 12001", x.doubt(12001, 0), -2);
        Check.same("promise 43: what -1", x.doubt(0, -1), -2);
        Check.same("promise 43: what 2", x.doubt(0, 2), -2);
        Check.same("promise 43: without lines, 0", x.doubt(0, 0), 0);
        Check.same("promise 43: without lines, no rivals", x.doubt(0, 1), 0);
        Check.same("promise 43: without lines, 1", x.doubt(1, 0), -1);
        x.line(1, 3);
        x.line(1, 2);
        x.line(1, 2);
        x.line(4, 6);
        Check.same("promise 43: none to doubt", x.doubt(7, 0), 0);
        Check.same("promise 43: one, rather than two", x.doubt(9, 0), 1);
        Check.same("promise 43: and its one rival", x.doubt(9, 1), 1);
        Check.same("promise 43: of like ones the least", x.doubt(8, 0), 2);
        Check.same("promise 43: the rival", x.doubt(8, 1), 1);
        Check.same("promise 43: two", x.doubt(10, 0), 3);
        Check.same("promise 43: three rivals", x.doubt(10, 1), 3);
        Check.same("promise 43: none comes to it", x.doubt(14, 0), -1);
        Check.same("promise 43: none, no rivals", x.doubt(14, 1), -1);
        x.line(3, 6);
        Check.same("promise 43: one behind two in number", x.doubt(13, 0), 16);
        Check.same("promise 43: without rivals", x.doubt(13, 1), 0);
        x.clear();
        x.line(1, 3);
        x.line(1, 2);
        x.line(1, 2);
        x.line(4, 6);
        x.line(9, 2);
        Check.same("promise 43: a second that is less", x.doubt(9, 0), 16);
        Check.same("promise 43: alone", x.doubt(9, 1), 0);
    }
}
