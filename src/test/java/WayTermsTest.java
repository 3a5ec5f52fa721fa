import java.math.BigInteger;

/** The sentences of "Terms", part 4, that name a boundary: each has a test of its own, which bears its words. */
public final class WayTermsTest {
    private static final int LAST = 9999;

    private WayTermsTest() {
    }

    public static void main(String[] args) {
        atMostSoMany();
        toBeTaken();
        behindThePassed();
        perhapsNone();
        greatestRow();
        waitingForTheYear();
        longest();
        passedOnTheDay();
        ninePapers();
        seatsOfAllPapers();
        noStudentInTwo();
        firstRow();
        pairsThatCount();
        pairsAlike();
        chances();
        mostPairs();
        fewerPairs();
        howManyExaminers();
        noneDiffers();
        twelveLines();
        fewestLines();
        rivals();
        imagesKeep();
        imagesApart();
        Check.end("WayTermsTest");
    }

    private static SenateRoll courses(int... leansAndTerms) {
        SenateRoll x = new SenateRoll();
        x.student(0);
        for (int i = 0; i < leansAndTerms.length; i += 2) {
            x.course(1, leansAndTerms[i], leansAndTerms[i + 1], 100);
        }
        return x;
    }

    private static void way(String what, SenateRoll x, int courses, int term, int n, int... due) {
        Check.same(what + ": the fewest TERMS", x.way(0, courses, term, n, 0, LAST), due.length);
        for (int i = 0; i < due.length; i++) {
            Check.same(what + ": the set of TERM " + i, x.wayAt(0, courses, term, n, 0, LAST, i), due[i]);
        }
        Check.same(what + ": not so many", x.wayAt(0, courses, term, n, 0, LAST, due.length), -1);
        Check.same(what + ": not so many by far", x.wayAt(0, courses, term, n, 0, LAST, Integer.MAX_VALUE), -1);
    }

    private static void atMostSoMany() {
        SenateRoll x = courses(0, 7, 0, 7, 0, 7, 0, 7, 0, 7);
        way("a set of at most 1", x, 31, 0, 1, 16, 8, 4, 2, 1);
        way("a set of at most 2", x, 31, 1, 2, 24, 6, 1);
        way("a set of at most 3", x, 31, 2, 3, 28, 3);
        way("a set of at most 4", x, 31, 0, 4, 30, 1);
        way("four of at most 4", x, 29, 0, 4, 29);
        way("one of at most 4", x, 8, 2, 4, 8);
        way("none is to be taken: 0", x, 0, 0, 1);
    }

    private static void toBeTaken() {
        SenateRoll x = courses(0, 7, 1, 7, 2, 7, 4, 7, 0, 7);
        way("all on which these LEAN, and so on", x, 8, 0, 4, 1, 2, 4, 8);
        way("no others", x, 2, 0, 4, 1, 2);
        way("told of themselves too", x, 15, 0, 4, 1, 2, 4, 8);
        way("with another one", x, 24, 0, 1, 16, 1, 2, 4, 8);
        way("with another one, at once", x, 24, 0, 2, 17, 2, 4, 8);
        x.mark(0, 0, 40, 0, 0, 0);
        way("those that are not PASSED", x, 8, 0, 4, 2, 4, 8);
        way("all that is asked is PASSED: 0", x, 1, 0, 4);
        Check.same("all that is asked is PASSED: none", x.wayAt(0, 1, 0, 4, 0, LAST, 0), -1);
        x.mark(0, 1, 40, 0, 0, 0);
        x.mark(0, 2, 40, 0, 0, 0);
        x.mark(0, 3, 40, 0, 0, 0);
        x.mark(0, 4, 40, 0, 0, 0);
        way("all are PASSED: 0", x, 31, 0, 1);
    }

    /** A course that is passed needs no others, though what it leans on is not passed. */
    private static void behindThePassed() {
        SenateRoll x = courses(0, 7, 1, 7, 2, 7, 3, 7);
        Texts.put(x, 0, "mark > 39");
        x.ordain(0, 0, 0, true);
        x.mark(0, 1, 40, 0, 0, 0);
        way("on which these LEAN that are not PASSED", x, 4, 0, 4, 4);
        way("one LEANS on a PASSED and on another", x, 8, 0, 4, 1, 8);
        way("both", x, 12, 0, 4, 5, 8);
        way("the PASSED itself", x, 2, 0, 4);
    }

    private static void perhapsNone() {
        SenateRoll x = courses(0, 1, 0, 2, 0, 4, 1, 1);
        way("perhaps none: from 0", x, 4, 0, 1, 0, 0, 4);
        way("perhaps none: from 1", x, 4, 1, 1, 0, 4);
        way("perhaps none: from 2", x, 4, 2, 1, 4);
        way("behind 2 comes 0", x, 3, 2, 1, 0, 1, 2);
        way("behind 2 comes 0, from 1", x, 1, 1, 1, 0, 0, 1);
        way("a year between", x, 8, 0, 4, 1, 0, 0, 8);
        way("a year between, from 1", x, 8, 1, 4, 0, 0, 1, 0, 0, 8);
        way("all", x, 15, 1, 4, 2, 4, 1, 0, 0, 8);
    }

    private static void greatestRow() {
        SenateRoll x = courses(0, 7, 0, 7, 0, 7, 1, 7);
        way("the greatest first, if it takes no longer", x, 15, 0, 1, 4, 2, 1, 8);
        way("the greatest first would take longer", x, 15, 0, 2, 5, 10);
        way("the first first", x, 7, 0, 2, 6, 1);
        x = courses(0, 7, 0, 3, 0, 5);
        way("the first as great as can be", x, 7, 0, 1, 4, 2, 1);
        way("what is taught later comes later", x, 7, 1, 1, 2, 4, 1);
        way("the greatest in the last", x, 7, 2, 1, 4, 2, 1);
        x = courses(0, 1, 0, 1, 0, 7);
        way("the greatest would leave one for the next year", x, 7, 0, 2, 3, 4);
        way("what no other TERM teaches goes ahead", x, 7, 0, 1, 2, 4, 0, 1);
    }

    private static void waitingForTheYear() {
        // Two that are taught in term 0 alone; on the lesser leans one that is taught in term 1 alone.
        SenateRoll x = courses(0, 1, 0, 1, 1, 2);
        way("the greater first would take a term more", x, 7, 0, 1, 1, 4, 0, 2);
        way("both at once", x, 7, 0, 2, 3, 4);
        way("from 1", x, 7, 1, 1, 0, 0, 1, 4, 0, 2);
        // Without one that leans the greater goes first.
        way("the greater first", x, 3, 0, 1, 2, 0, 0, 1);
    }

    private static void longest() {
        SenateRoll x = new SenateRoll();
        x.student(0);
        for (int i = 0; i < 14; i++) {
            x.course(1, (1 << i) - 1, 4, 100);
        }
        for (int i = 0; i < 14; i++) {
            for (int t = 0; t < 3; t++) {
                Check.same("the last one's number, 1 on", x.way(0, 1 << i, t, 4, 0, 0), 3 * i + 3 - t);
            }
            Check.same("the last TERM's set", x.wayAt(0, 1 << i, 0, 4, 0, 0, 3 * i + 2), 1 << i);
            Check.same("not so many", x.wayAt(0, 1 << i, 0, 4, 0, 0, 3 * i + 3), -1);
        }
        SenateRoll y = courses(0, 2, 0, 2, 0, 2, 0, 2, 0, 2, 0, 2, 0, 2, 0, 2, 0, 2, 0, 2, 0, 2, 0, 2, 0, 2, 0, 2);
        int[] due = {41, 20, 14, 11};
        for (int n = 1; n <= 4; n++) {
            Check.same("14 COURSES in one TERM of the year, " + n + " at most", y.way(0, 16383, 0, n, 0, 0), due[n - 1]);
        }
        Check.same("the first set is the greatest", y.wayAt(0, 16383, 0, 4, 0, 0, 1), 15 << 10);
        Check.same("the last set is what is left", y.wayAt(0, 16383, 0, 4, 0, 0, 10), 3);
    }

    private static void passedOnTheDay() {
        SenateRoll x = courses(0, 7, 1, 7);
        Texts.put(x, 0, "1");
        x.mark(0, 0, 40, 0, 5, 8);
        x.ordain(0, 0, 20, true);
        Check.same("PASSED as KNOWN: not yet", x.way(0, 3, 0, 1, 19, 7), 2);
        Check.same("PASSED as KNOWN", x.way(0, 3, 0, 1, 19, 8), 1);
        Check.same("PASSED on the DAY by its ordinance", x.way(0, 3, 0, 1, 20, 7), 0);
    }

    private static SenateRoll papers(int courses, int students, int... sits) {
        SenateRoll x = new SenateRoll();
        for (int i = 0; i < courses; i++) {
            x.course(1, 0, 7, 100);
        }
        for (int i = 0; i < students; i++) {
            x.student(0);
        }
        for (int i = 0; i < sits.length; i += 2) {
            x.sits(sits[i], sits[i + 1], true);
        }
        return x;
    }

    private static void ninePapers() {
        SenateRoll x = papers(14, 1);
        Check.same("THE HOURS of no PAPER", x.hours(0, 1), 0);
        Check.same("9 at most: nine that none sits", x.hours(511, 1), 1);
        Check.same("9 at most: the last nine", x.hours(511 << 5, 1), 1);
        Check.same("9 at most: ten", x.hours(1023, 1), -3);
        Check.same("9 at most: all", x.hours(16383, 200), -3);
        for (int i = 0; i < 14; i++) {
            x.sits(0, i, true);
        }
        Check.same("nine that one sits", x.hours(511 << 5, 1), 9);
        for (int i = 5; i < 14; i++) {
            Check.same("nine that one sits: the hour of " + i, x.hourOf(511 << 5, 1, i), i - 5);
        }
        Check.same("not one of them", x.hourOf(511 << 5, 1, 4), -2);
        Check.same("one of them", x.hourOf(1 << 13, 200, 13), 0);
    }

    private static void seatsOfAllPapers() {
        SenateRoll x = papers(3, 20);
        for (int s = 0; s < 20; s++) {
            x.sits(s, s < 12 ? 0 : 1, true);
        }
        Check.same("a PAPER has more than there are SEATS", x.hours(3, 11), -1);
        Check.same("its hour", x.hourOf(3, 11, 1), -1);
        Check.same("the other alone has not", x.hours(2, 8), 1);
        Check.same("the other alone has more", x.hours(2, 7), -1);
        Check.same("as many as there are SEATS", x.hours(3, 12), 2);
        Check.same("all PAPERS of it together: one too many", x.hours(3, 19), 2);
        Check.same("all PAPERS of it together", x.hours(3, 20), 1);
        Check.same("SEATS 200", x.hours(3, 200), 1);
        Check.same("one that none sits needs none", x.hours(7, 12), 2);
        Check.same("it is put to the first hour", x.hourOf(7, 12, 2), 0);
        Check.same("one that none sits, one SEAT", x.hours(4, 1), 1);
    }

    private static void noStudentInTwo() {
        SenateRoll x = papers(4, 4, 0, 0, 0, 1, 1, 1, 1, 2, 2, 2, 2, 3, 3, 3, 3, 0);
        Check.same("a ring of four: two hours", x.hours(15, 200), 2);
        Check.same("three of it: two hours", x.hours(7, 200), 2);
        Check.same("two that no one sits both", x.hours(5, 200), 1);
        x.sits(0, 2, true);
        Check.same("three, each two of which one sits", x.hours(15, 200), 3);
        x.sits(0, 2, false);
        Check.same("two again", x.hours(15, 200), 2);
        Check.same("all sit two, three SEATS: an hour each", x.hours(15, 3), 4);
        Check.same("all sit two, four SEATS", x.hours(15, 4), 2);
    }

    private static void firstRow() {
        SenateRoll x = papers(4, 4, 0, 0, 0, 1, 1, 1, 1, 2, 2, 2, 2, 3, 3, 3, 3, 0);
        int[] due = {0, 1, 0, 1};
        for (int i = 0; i < 4; i++) {
            Check.same("the first row of hours by COURSES: of " + i, x.hourOf(15, 200, i), due[i]);
        }
        // 0 alone could sit with 1 or with 3: with 1, and then 2 with 3.
        x = papers(4, 2, 0, 0, 0, 2, 1, 1, 1, 3);
        int[] row = {0, 0, 1, 1};
        for (int i = 0; i < 4; i++) {
            Check.same("the least hour of each, the first first: of " + i, x.hourOf(15, 200, i), row[i]);
        }
        // The first two fill an hour, each of the others one.
        x = papers(4, 4, 0, 0, 1, 1, 2, 2, 3, 2, 0, 3, 3, 3);
        int[] full = {0, 0, 1, 2};
        for (int i = 0; i < 4; i++) {
            Check.same("two SEATS in an hour: of " + i, x.hourOf(15, 2, i), full[i]);
        }
        // 0 and 1 in one hour would leave two hours for 2 and 3: the fewest hours come ahead of the row.
        x = papers(4, 4, 0, 0, 1, 1, 1, 2, 2, 2, 0, 3, 3, 3);
        int[] fewest = {0, 1, 0, 1};
        Check.same("three SEATS in an hour", x.hours(15, 3), 2);
        for (int i = 0; i < 4; i++) {
            Check.same("the fewest hours, then the row: of " + i, x.hourOf(15, 3, i), fewest[i]);
        }
    }

    /** One course, one student, a board that met on day 10. */
    private static SenateRoll examined() {
        SenateRoll x = new SenateRoll();
        x.course(1, 0, 7, 100);
        x.student(0);
        x.board(1, 1);
        x.meeting(0, 10, 1, 1);
        return x;
    }

    private static void habit(SenateRoll x, String what, int examiner, int k, int n, int p, int mean) {
        Check.same("HABIT, " + what + ": n", x.habit(examiner, k, 0), n);
        Check.same("HABIT, " + what + ": p", x.habit(examiner, k, 1), p);
        Check.same("HABIT, " + what + ": THE MEAN more", x.habit(examiner, k, 2), mean);
    }

    private static void pairsThatCount() {
        SenateRoll x = examined();
        habit(x, "without any", 4, LAST, 0, 0, 0);
        x.mark(0, 0, 60, 4, 1, 5);
        habit(x, "a MARK without a SECOND", 4, LAST, 0, 0, 0);
        x.second(0, 40, 0, 2, 7);
        habit(x, "the SECOND is not KNOWN", 4, 6, 0, 0, 0);
        habit(x, "the SECOND is KNOWN", 4, 7, 1, 1, 20);
        habit(x, "of the SECOND", 0, 7, 1, 0, -20);
        habit(x, "of another EXAMINER", 1, 7, 0, 0, 0);
        x.second(0, 70, 0, 3, 9);
        habit(x, "that SECOND which is taken", 4, 9, 1, 0, -10);
        habit(x, "that SECOND which is taken, as KNOWN before", 4, 8, 1, 1, 20);
        x.strike(2, 0, 11);
        habit(x, "the one taken is STRUCK", 4, 11, 1, 1, 20);
        habit(x, "the one taken is STRUCK, of the SECOND", 0, 11, 1, 0, -20);
        x.strike(1, 0, 12);
        habit(x, "both are STRUCK", 4, 12, 0, 0, 0);
        habit(x, "both are STRUCK, of the SECOND", 0, 12, 0, 0, 0);
        x.moderate(0, 10, 0, 10);
        habit(x, "MODERATED does not matter", 4, 9, 1, 0, -10);
    }

    private static void pairsAlike() {
        SenateRoll x = examined();
        int[][] pairs = {{50, 50}, {50, 53}, {50, 50}, {57, 50}, {0, 100}};
        int[][] due = {{0, 0, 0}, {1, 0, -1}, {1, 0, -1}, {2, 1, 1}, {3, 1, -19}};
        int[] dueOfSeconds = {0, 1, 1, -1, 19};
        for (int i = 0; i < pairs.length; i++) {
            x.mark(0, 0, pairs[i][0], 1, i, i);
            x.second(2 * i, pairs[i][1], 2, i, i);
            habit(x, "alike ones too, cut: " + (i + 1), 1, i, due[i][0], due[i][1], due[i][2]);
            habit(x, "the other's: " + (i + 1), 2, i, due[i][0], due[i][0] - due[i][1], dueOfSeconds[i]);
        }
        habit(x, "as KNOWN at first", 1, 0, 0, 0, 0);
    }

    /** So many pairs of the examiners 0 and 1 that differ, of which 0 told more in so many, and some alike. */
    private static SenateRoll differing(int n, int more, int alike) {
        SenateRoll x = examined();
        for (int i = 0; i < n + alike; i++) {
            x.mark(0, 0, 50, 0, 1, 1);
            x.second(2 * i, i < more ? 49 : i < n ? 51 : 50, 1, 1, 1);
        }
        return x;
    }

    private static void hard(SenateRoll x, String what, int greatestOdds) {
        for (int examiner = 0; examiner < 2; examiner++) {
            x.odds(greatestOdds);
            Check.same("HARD, " + what + ", by " + greatestOdds, x.habit(examiner, LAST, 3), 1);
            if (greatestOdds < 10000) {
                x.odds(greatestOdds + 1);
                Check.same("HARD, " + what + ", by " + (greatestOdds + 1), x.habit(examiner, LAST, 3), 0);
            }
        }
    }

    private static void chances() {
        // Two examiners: times 4. All of n: 4 / 2^n. But one of n: 4 (n + 1) / 2^n.
        hard(differing(2, 2, 0), "two of two", 1);
        hard(differing(2, 0, 3), "none of two, alike ones do not matter", 1);
        hard(differing(3, 3, 0), "three of three", 2);
        hard(differing(6, 0, 0), "none of six", 16);
        hard(differing(7, 7, 0), "seven of seven: 1 by 32", 32);
        hard(differing(15, 15, 0), "15 of 15: 1 by 8192", 8192);
        hard(differing(16, 0, 0), "none of 16: 1 by 16384", 10000);
        hard(differing(6, 5, 0), "five of six: 28 by 64", 2);
        hard(differing(6, 1, 0), "one of six", 2);
        hard(differing(8, 7, 1), "seven of eight: 36 by 256", 7);
        hard(differing(9, 7, 0), "seven of nine: (36 + 9 + 1) * 4 by 512", 2);
        hard(differing(20, 15, 0), "15 of 20: 21700 * 4 by 1048576", 12);
        hard(differing(20, 4, 0), "four of 20: 6196 * 4 by 1048576", 42);
        hard(differing(23, 3, 0), "three of 23: 2048 * 4 by 8388608", 1024);
        SenateRoll x = differing(1, 1, 0);
        x.odds(1);
        Check.same("HARD, one of one: 4 by 2", x.habit(0, LAST, 3), 0);
        x = differing(4, 2, 0);
        x.odds(1);
        Check.same("HARD, two of four: 11 * 4 by 16", x.habit(0, LAST, 3), 0);
        x = differing(7, 7, 0);
        Check.same("ODDS (1 .. 10000; 20 at first): seven of seven, 1 by 32", x.habit(0, LAST, 3), 1);
        x = differing(6, 6, 0);
        Check.same("ODDS (1 .. 10000; 20 at first): six of six, 1 by 16", x.habit(0, LAST, 3), 0);
    }

    /** One MARK of the EXAMINER 3 and so many SECONDS of 4, each a pair that differs, of which 4 told more in so many. */
    private static SenateRoll secondsOfOne(int n, int more) {
        SenateRoll x = examined();
        x.mark(0, 0, 50, 3, 1, 1);
        for (int i = 0; i < n; i++) {
            x.second(0, i < more ? 60 : 40, 4, 1, 1);
        }
        return x;
    }

    private static void hardAsCounted(SenateRoll x, int n, int more, int odds) {
        BigInteger times = BigInteger.valueOf(4L * odds);
        BigInteger chance = Model.ways(n, Math.max(more, n - more)).multiply(times);
        x.odds(odds);
        Check.same("HARD, " + more + " of " + n + ", by " + odds, x.habit(4, 1, 3),
            chance.compareTo(BigInteger.ONE.shiftLeft(n)) <= 0 ? 1 : 0);
    }

    /** 249 SECONDS of one MARK are the most that there can be. */
    private static void mostPairs() {
        for (int more : new int[] {0, 90, 100, 103, 104, 105, 106, 107, 124, 140, 143, 144, 145, 249}) {
            SenateRoll x = secondsOfOne(249, more);
            Check.same("249 pairs that differ", x.habit(4, 1, 0), 249);
            Check.same("249 pairs, it told more in", x.habit(4, 1, 1), more);
            Check.same("249 pairs, THE MEAN more", x.habit(4, 1, 2), (20 * more - 2490) / 249);
            Check.same("the MARK is one pair", x.habit(3, 1, 0), 1);
            for (int odds = 1; odds <= 10000; odds = odds * 3 / 2 + 1) {
                hardAsCounted(x, 249, more, odds);
            }
            hardAsCounted(x, 249, more, 10000);
        }
    }

    private static void fewerPairs() {
        for (int n = 1; n <= 63; n++) {
            for (int more = 0; more <= n; more += n < 20 ? 1 : 3) {
                SenateRoll x = secondsOfOne(n, more);
                for (int odds : new int[] {1, 2, 7, 20, 1000, 10000}) {
                    hardAsCounted(x, n, more, odds);
                }
            }
        }
    }

    private static void howManyExaminers() {
        SenateRoll x = differing(6, 6, 0);
        // The chance of six of six is 1 by 64: times 4, 6, 8 and 10.
        int[] greatest = {16, 10, 8, 6};
        for (int with = 2; with <= 5; with++) {
            hardUpTo(x, with, greatest[with - 2]);
            if (with < 5) {
                int mark = x.mark(0, 0, 50, with, 1, 1);
                x.second(mark, 50, 1, 1, 1);
                hardUpTo(x, with, greatest[with - 2]);
                x.second(mark, 51, 1, 1, 1);
                Check.same("this one has n above 0 now", x.habit(with, LAST, 0), 1);
            }
        }
    }

    private static void hardUpTo(SenateRoll x, int with, int odds) {
        String what = "HARD: times 2 times how many EXAMINERS have n above 0: " + with;
        x.odds(odds);
        Check.same(what + ", by " + odds, x.habit(0, LAST, 3), 1);
        x.odds(odds + 1);
        Check.same(what + ", by " + (odds + 1), x.habit(0, LAST, 3), 0);
    }

    private static void noneDiffers() {
        for (int examiner = 0; examiner < 5; examiner++) {
            SenateRoll x = new SenateRoll();
            Check.same("HABIT of an empty house: n", x.habit(examiner, 0, 0), 0);
            Check.same("HABIT of an empty house: p", x.habit(examiner, 0, 1), 0);
            Check.same("HABIT of an empty house: THE MEAN more", x.habit(examiner, 0, 2), 0);
            Check.same("HARD: 1 times 2 times 0 is no more than 1 by ODDS", x.habit(examiner, 0, 3), 1);
        }
        SenateRoll x = differing(2, 2, 0);
        x.odds(1);
        Check.same("HARD of one without any, while others differ: 1 times 4", x.habit(2, LAST, 3), 0);
    }

    private static void twelveLines() {
        SenateRoll x = new SenateRoll();
        for (int i = 1; i <= 12; i++) {
            Check.same("up to 12 lines", x.line(0, 1000), i);
            Check.same("up to 12 lines: how many", x.count(6), i);
            Check.same("a SUM of all seconds", x.doubt(1000 * i, 0), (1 << i) - 1);
            Check.same("a SUM that none comes to", x.doubt(999, 0), -1);
        }
        Check.same("up to 12 lines: one more", x.line(1000, 0), -4);
        Check.same("the SUM of all firsts", x.doubt(0, 0), 0);
        Check.same("the last line, of like ones the least number", x.doubt(11000, 0), 2047);
        Check.same("how many there were", x.clear(), 12);
        Check.same("the LISTS are empty: 0 comes", x.doubt(0, 0), 0);
        Check.same("the LISTS are empty: nothing else", x.doubt(12000, 0), -1);
    }

    private static void fewestLines() {
        SenateRoll x = new SenateRoll();
        int[][] lines = {{0, 1}, {0, 2}, {0, 4}, {0, 7}, {1000, 1000}};
        for (int[] line : lines) {
            x.line(line[0], line[1]);
        }
        int[][] due = {{1000, 0, 0}, {1001, 1, 0}, {1003, 3, 0}, {1007, 8, 0}, {1008, 9, 0}, {1014, 15, 0}, {1015, -1, -1}};
        for (int[] one : due) {
            Check.same("the one with the fewest, of the SUM " + one[0], x.doubt(one[0], 0), one[1]);
            Check.same("RIVALS, of the SUM " + one[0], x.doubt(one[0], 1), one[2]);
        }
        SenateRoll y = new SenateRoll();
        y.line(5, 5);
        Check.same("a line that is alike need not be doubted", y.doubt(5, 0) * 10 + y.doubt(5, 1), 0);
        y.line(9, 2);
        Check.same("the second's number is less", y.doubt(7, 0), 2);
        Check.same("the first's numbers", y.doubt(14, 0), 0);
    }

    private static void rivals() {
        SenateRoll x = new SenateRoll();
        int[] due = {0, 1, 2, 3, 4, 5, 6, 7, 8, 9, 10, 11};
        for (int i = 0; i < 12; i++) {
            x.line(0, 3);
            Check.same("RIVALS: how many others have as few", x.doubt(3, 1), due[i]);
            Check.same("of like ones the least number", x.doubt(3, 0), 1);
        }
        Check.same("RIVALS of none to doubt", x.doubt(0, 1), 0);
        Check.same("RIVALS of all to doubt", x.doubt(36, 1), 0);
        Check.same("RIVALS of two to doubt", x.doubt(6, 1), 65);
        Check.same("RIVALS of six to doubt", x.doubt(18, 1), 923);
        x.clear();
        x.line(0, 1);
        x.line(0, 2);
        x.line(0, 3);
        Check.same("others that have more are none", x.doubt(3, 1), 0);
        Check.same("one, though two lesser ones come to it", x.doubt(3, 0), 4);
    }

    private static void imagesKeep() {
        SenateRoll x = new SenateRoll();
        Check.same("none was kept: 0", x.from(0), -3);
        Check.same("none was kept: 1", x.from(1), -3);
        Check.same("an IMAGE of an empty house", x.image(0), 1);
        Texts.put(x, 7, "7");
        x.student(3);
        x.course(1, 0, 7, 100);
        x.line(1, 2);
        x.days(3);
        x.odds(4);
        x.sits(0, 0, true);
        x.ordain(7, 7, 0, true);
        x.choose(0, 0);
        long told = x.digest();
        Check.same("another IMAGE", x.image(1), 1);
        Check.same("the house goes on from the empty one", x.from(0), 1);
        Check.same("it is as a new one", x.digest(), new SenateRoll().digest());
        Check.same("APPEAL DAYS as they were", x.days(30), 30);
        Check.same("ODDS as they were", x.odds(20), 20);
        Check.same("no LISTS", x.clear(), 0);
        Check.same("no TEXT", x.erase(7), 0);
        Check.same("a STUDENT anew", x.student(3), 0);
        x.course(1, 0, 7, 100);
        Check.same("it is not SITTING", x.sits(0, 0, false), -3);
        Check.same("it chose none", x.choose(0, -1), -1);
        Check.same("no ORDINANCE", x.choose(0, 0), -10);
        Check.same("the other IMAGE is not lost", x.from(1), 1);
        Check.same("the other IMAGE", x.digest(), told);
        Check.same("its LISTS", x.doubt(2, 0), 1);
        Check.same("its ORDINANCE", x.grade(0, 0, 0), 7);
    }

    private static void imagesApart() {
        SenateRoll x = new SenateRoll();
        x.line(1, 2);
        x.image(0);
        x.line(3, 4);
        Check.same("what comes behind an IMAGE is not in it", x.from(0) * 10 + x.clear(), 11);
        Check.same("and going on from it keeps it", x.from(0) * 10 + x.clear(), 11);
        x.line(5, 6);
        x.line(5, 6);
        Check.same("kept anew", x.image(0), 1);
        x.clear();
        Check.same("what was kept last", x.from(0) * 10 + x.clear(), 12);
        Check.same("the other was never kept", x.from(1), -3);
        SenateRoll other = new SenateRoll();
        Check.same("of another object neither", other.from(0), -3);
    }
}
