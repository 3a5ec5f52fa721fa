/** Promises 27 to 33. */
public final class TextsTest {
    private static final long BAD = -2000000000000000000L, NO = -3000000000000000000L;

    private TextsTest() {
    }

    public static void main(String[] args) {
        writing();
        faultsByPlace();
        faultsByKind();
        longNumbersByPlace();
        soundTexts();
        telling();
        names();
        ordaining();
        choosing();
        binding();
        Check.end("TextsTest");
    }

    private static void writing() {
        SenateRoll x = new SenateRoll();
        Check.same("promise 27: text -1", x.write(-1, 65), -2);
        Check.same("promise 27: text 8", x.write(8, 65), -2);
        Check.same("promise 27: character -1", x.write(0, -1), -2);
        Check.same("promise 27: character 128", x.write(0, 128), -2);
        for (int i = 1; i <= 80; i++) {
            Check.same("promise 27: how many", x.write(7, i % 2 == 0 ? 0 : 127), i);
        }
        Check.same("promise 27: full", x.write(7, 65), -4);
        Check.same("promise 27: BAD ahead of FULL", x.write(7, 128), -2);
        Check.same("promise 27: another text", x.write(6, 65), 1);
        Check.same("promise 28: text -1", x.erase(-1), -2);
        Check.same("promise 28: text 8", x.erase(8), -2);
        Check.same("promise 28: how many there were", x.erase(7), 80);
        Check.same("promise 28: none any more", x.erase(7), 0);
        Check.same("promise 28: the other is as it was", x.erase(6), 1);
        Check.same("promise 28: from the start again", x.write(7, 49), 1);
        Check.same("promise 29: text -1", x.fault(-1), -2);
        Check.same("promise 29: text 8", x.fault(8), -2);
        Check.same("promise 29: none", x.fault(7), -1);
    }

    private static void fault(String text, int due) {
        Check.same("promise 29: the fault of '" + text + "'", Texts.faultOf(text), due);
    }

    private static void faultsByPlace() {
        fault("", 1);
        fault("   ", 31);
        fault("1 +", 31);
        fault("1 + ", 41);
        fault("(1", 21);
        fault("(1 ", 31);
        fault("1)", 11);
        fault("()", 11);
        fault("1 2", 21);
        fault("12 3", 31);
        fault("mark mark", 51);
        fault("mark1", 41);
        fault("1(2)", 11);
        fault("and 1", 1);
        fault("1 and and 1", 61);
        fault("1 or", 41);
        fault("1 not 2", 21);
        fault("1 best 2", 21);
        fault("+ 1", 1);
        fault("* 1", 1);
        fault("1 < 2 < 3", 61);
        fault("1 < 2 = 3", 61);
        fault("1 + 2 > 3 - 4 = 5", 141);
        fault("1 if 2", 61);
        fault("1 if 2 if 3 else 4", 71);
        fault("1 if 2 unless 3 else 4", 71);
        fault("1 if (2", 71);
        fault("(1 if 2)", 71);
        fault("1 else 2", 21);
        fault("1 if 2 else 3 else 4", 141);
        fault("1 if 2 else", 111);
        fault("if 1 else 2", 1);
        fault("(1 else 2)", 31);
        fault("1 unless", 81);
        fault("unless 1", 1);
        fault("1 unless unless 2", 91);
        fault("not", 31);
        fault("best", 41);
        fault("- - -", 51);
        fault("1 << 2", 31);
        fault("1 <= 2", 31);
        fault("1 == 2", 31);
        fault("(1 if 2 else 3) 4", 161);
        fault("1 if 2 and 3 unless 4 else 5", 131);
        fault("1 if 2 + 3 if 4 else 5 else 6", 111);
        fault("(1 if not 2) else 3", 111);
        fault("1 if -2", 71);
        fault("1 if 2 else 3 if 4 unless 5", 191);
        fault("1 unless 2 else 3", 111);
        fault("(1 unless 2 else 3)", 121);
        fault("1 if (2 else 3)", 81);
        fault("1 if (2) 3", 91);
    }

    private static void faultsByKind() {
        fault("A", 1);
        fault("1 % 2", 21);
        fault("1\t+ 2", 11);
        fault("\n1", 1);
        fault("1.5", 11);
        fault("mark_", 41);
        fault("Mark", 1);
        fault("1234567", 2);
        fault("0000000", 2);
        fault("12345678901234567890", 2);
        fault("1 + 1234567", 42);
        fault("mark > 1234567 foo", 72);
        fault("foo", 4);
        fault("marks", 4);
        fault("mar", 4);
        fault("m", 4);
        fault("1 + bestof 2", 44);
        fault("notmark", 4);
        fault("1 foo", 24);
        fault("1 an 2", 24);
        fault("1 anda 2", 24);
        fault("passedx", 4);
        fault("unles", 4);
        fault("xunless", 4);
        fault("((((((((1))))))))", -1);
        fault("(((((((((1)))))))))", 83);
        fault("(((((((( (1", 93);
        fault("((((((((1(", 91);
        fault("((((((((1))))))))+((((((((1))))))))", -1);
        fault("(1)+(((((((((1", 123);
        fault("((((((((1)+(1", -1 + 132);
    }

    /** A number of 6 digits, one of 7 and a longer one: where a number can stand, and where none can. */
    private static void longNumbersByPlace() {
        String[] numbers = {"123456", "000000", "1234567", "0000000", "12345678901234567890"};
        // What stands ahead of the number and what behind it, to make a sound text of it.
        String[][] can = {{"", ""}, {" ", ""}, {"(", ")"}, {"((((((((", "))))))))"}, {"-", ""}, {"not ", ""}, {"best ", ""},
            {"best", ""}, {"1 + ", ""}, {"1*", ""}, {"2 < ", ""}, {"1 and ", ""}, {"1 or", ""}, {"1 if ", " else 2"},
            {"1 if 2 else ", ""}, {"1 unless ", ""}, {"not(1)=", " + 3"}};
        String[] canNot = {"0 ", "000000 ", "mark", "mark ", "(1)", "(1) ", "best 3 ", "1 + 2 ", "1 if 2 ",
            "1 if 2 else 3 ", "1 unless 2 ", "1 < 2 ", "(1 "};
        for (String number : numbers) {
            for (String[] around : can) {
                int due = number.length() > 6 ? 10 * around[0].length() + 2 : -1;
                fault(around[0] + number + around[1], due);
            }
            for (String before : canNot) {
                fault(before + number, 10 * before.length() + 1);
            }
        }
        fault("1 2 1234567", 21);
        fault("1 1234567 foo", 21);
        fault("1234567 1234567", 2);
        fault("(1234567", 12);
        fault("foo 1234567", 4);
        refusedTexts("0 0000000");
        refusedTexts("0000000");
    }

    /** The other calls that look for a FAULT find one here. */
    private static void refusedTexts(String faulty) {
        SenateRoll x = new SenateRoll();
        x.student(0);
        Texts.put(x, 0, faulty);
        Texts.put(x, 1, "1");
        Check.same("promise 30: '" + faulty + "'", x.tells(0, 0, -1, 0, 0), -3000000000000000000L);
        Check.same("promise 31: '" + faulty + "' for what passes", x.ordain(0, 1, 0, true), -3);
        Check.same("promise 31: '" + faulty + "' for the class", x.ordain(1, 0, 0, true), -3);
        Check.same("promise 31: nothing is changed", x.count(5), 0);
    }

    private static void soundTexts() {
        String[] sound = {"1", " 1 ", "999999", "000001", "mark", "  mark  >39and leans", "9if mean>5000else 2", "best3", "best mark",
            "not not not 1", "---1", "1--1", "best best - best 2", "not(1)and(2)", "1 if 2 else 3 if 4 else 5",
            "1 unless 2 unless 3", "1 if 2 else 3 unless 4 if 5 else 6", "(1 < 2) < 3", "1 < 2 and 3 > 4 or 5 = 6",
            "1 < 2 if 3 < 4 else 5 < 6", "tries+excused*course/credit-passed", "(1 unless 2) if (3 unless 4) else 5"};
        for (String text : sound) {
            fault(text, -1);
        }
        fault(Texts.repeat("-", 79) + "1", -1);
        fault(Texts.repeat("-", 80), 801);
        fault(Texts.repeat("1+", 40), 801);
        fault(Texts.repeat("1+", 39) + "12", -1);
    }

    /** What a text without names tells. */
    private static void alone(String text, long due) {
        SenateRoll x = new SenateRoll();
        x.student(0);
        Texts.put(x, 3, text);
        Check.same("promise 30: '" + text + "'", x.tells(3, 0, -1, 0, 0), due);
    }

    private static void telling() {
        alone("7", 7);
        alone("000007", 7);
        alone("1 + 2 * 3", 7);
        alone("10 - 3 - 2", 5);
        alone("100 / 7 / 2", 7);
        alone("2 * 7 / 4", 3);
        alone("-7 / 2", -3);
        alone("7 / -2", -3);
        alone("7 / 0", 0);
        alone("- 2 * 3", -6);
        alone("2 - - 3", 5);
        alone("-(2 - 5)", 3);
        alone("not 0", 1);
        alone("not 7", 0);
        alone("not 1 = 0", 1);
        alone("not (1 = 0)", 1);
        alone("3 and 4", 1);
        alone("3 and 0", 0);
        alone("0 or 7", 1);
        alone("0 or 0", 0);
        alone("1 or 0 and 0", 1);
        alone("(1 or 0) and 0", 0);
        alone("1 < 2", 1);
        alone("2 < 2", 0);
        alone("3 > 2", 1);
        alone("2 = 2", 1);
        alone("2 + 2 = 4", 1);
        alone("1 + 1 < 1 * 3", 1);
        alone("5 if 1 else 6", 5);
        alone("5 if 0 else 6", 6);
        alone("5 if -1 else 6", 5);
        alone("5 if 0 else 6 if 0 else 7", 7);
        alone("5 if 0 else 6 if 1 else 7", 6);
        alone("1 or 0 if 0 else 2", 2);
        alone("5 unless 0", 5);
        alone("5 unless 2", 0);
        alone("5 unless 1 unless 1", 0);
        alone("5 unless 0 unless 1", 0);
        alone("5 unless (1 unless 1)", 5);
        alone("5 unless 1 if 0 else 0", 5);
        alone("5 if 1 else 6 unless 1", 0);
        alone("5 if 1 else (6 unless 1)", 5);
        alone("999999 * 999999 * 999999 * 999999", 999999L * 999999L * 999999L * 999999L);
        alone("-9 / -4", 2);
        alone("best 1", 0);
        alone("best 0", 0);
        alone("best -1", 0);
        alone("best 15", 0);
        alone("mark", -1);
        alone("tries + excused + leans + course + credit + mean + passed", 0);
        smallestByMinusOne();
    }

    private static void smallestByMinusOne() {
        // 2^63 wraps to the least long, which by -1 is itself again.
        String half = "(65536*65536*65536*32768)";
        alone(half, Long.MIN_VALUE);
        alone(half + "/-1", Long.MIN_VALUE);
        alone("-" + half, Long.MIN_VALUE);
    }

    private static void names() {
        SenateRoll x = new SenateRoll();
        x.course(10, 0, 7, 40);
        x.course(20, 1, 7, 100);
        x.course(30, 3, 7, 100);
        x.student(0);
        x.board(1, 1);
        x.meeting(0, 10, 1, 1);
        x.mark(0, 0, 30, 0, 1, 1);
        x.mark(0, 0, 80, 0, 2, 2);
        x.mark(0, 2, 90, 0, 2, 2);
        x.excuse(0, 1, 0, 10);
        String[] names = {"mark", "tries", "excused", "leans", "course", "credit", "mean", "passed", "best 1"};
        long[][] due = {{40, 2, 0, 1, 0, 0, 0, 0, 0}, {-1, 0, 1, 1, 1, 0, 0, 0, 0}, {90, 1, 0, 0, 2, 0, 0, 0, 0},
            {-1, 0, 0, 0, 0, 10, 4000, 1, 4000}};
        for (int i = 0; i < names.length; i++) {
            Texts.put(x, 0, names[i]);
            for (int course = 0; course < 3; course++) {
                Check.same("promise 30: " + names[i] + " in course " + course, x.tells(0, 0, course, 5, 20), due[course][i]);
            }
            Check.same("promise 30: " + names[i] + " alone", x.tells(0, 0, -1, 5, 20), due[3][i]);
        }
        Texts.put(x, 0, "best 2");
        Check.same("promise 30: fewer are passed", x.tells(0, 0, -1, 5, 20), 0);
        long[] bad = {x.tells(-1, 0, 0, 5, 5), x.tells(8, 0, 0, 5, 5), x.tells(0, -1, 0, 5, 5), x.tells(0, 1, 0, 5, 5),
            x.tells(0, 0, -2, 5, 5), x.tells(0, 0, 3, 5, 5), x.tells(0, 0, 0, -1, 5), x.tells(0, 0, 0, 10000, 5),
            x.tells(0, 0, 0, 5, -1), x.tells(0, 0, 0, 5, 10000), x.tells(1, 0, 3, 5, 5)};
        for (long one : bad) {
            Check.same("promise 30: BAD", one, BAD);
        }
        Check.same("promise 30: NO", x.tells(1, 0, 0, 5, 5), NO);
        Texts.put(x, 1, "leans");
        Texts.put(x, 2, "course = 0 or course = 1");
        x.ordain(2, 2, 50, true);
        Check.same("promise 30: leans by the ordinance that binds", x.tells(1, 0, 2, 50, 5), 1);
        Check.same("promise 30: and by the one ahead of it", x.tells(1, 0, 2, 49, 5), 0);
    }

    private static void ordaining() {
        SenateRoll x = new SenateRoll();
        Texts.put(x, 0, "mark > 59");
        Texts.put(x, 1, "passed");
        Texts.put(x, 2, "1 +");
        Check.same("promise 31: text -1", x.ordain(-1, 1, 0, true), -2);
        Check.same("promise 31: text 8", x.ordain(0, 8, 0, true), -2);
        Check.same("promise 31: day -1", x.ordain(0, 1, -1, true), -2);
        Check.same("promise 31: day 10000", x.ordain(0, 1, 10000, true), -2);
        Check.same("promise 31: a fault in what passes", x.ordain(2, 1, 0, true), -3);
        Check.same("promise 31: a fault in the class", x.ordain(0, 2, 0, true), -3);
        Check.same("promise 31: an empty text", x.ordain(0, 7, 0, true), -3);
        Check.same("promise 31: the first", x.ordain(0, 1, 0, true), 0);
        Check.same("promise 46: ordinances", x.count(5), 1);
        Texts.put(x, 0, "0");
        Texts.put(x, 1, "9");
        x.student(5);
        x.course(10, 0, 7, 100);
        x.mark(0, 0, 60, 0, 1, 1);
        Check.same("promise 31: passes as it stood then", x.passed(0, 5, 5), 1);
        Check.same("promise 31: the class as it stood then", x.grade(0, 5, 5), 1);
        for (int i = 1; i < 10; i++) {
            Check.same("promise 31: the next", x.ordain(1, 1, 9999, false), i);
        }
        Check.same("promise 31: full", x.ordain(0, 1, 0, true), -4);
        Check.same("promise 31: NO ahead of FULL", x.ordain(0, 2, 0, true), -3);
        Check.same("promise 31: BAD ahead of NO", x.ordain(2, 2, -1, true), -2);
    }

    private static void choosing() {
        SenateRoll x = new SenateRoll();
        Check.same("promise 32: no student", x.choose(0, -1), -10);
        x.student(0);
        Check.same("promise 32: no ordinance", x.choose(0, 0), -10);
        Check.same("promise 32: -2", x.choose(0, -2), -10);
        Check.same("promise 32: student -1", x.choose(-1, -1), -10);
        Check.same("promise 32: none", x.choose(0, -1), -1);
        Texts.put(x, 0, "1");
        x.ordain(0, 0, 9999, false);
        Check.same("promise 32: it had none", x.choose(0, 0), -1);
        Check.same("promise 32: it had one", x.choose(0, -1), 0);
        Check.same("promise 32: none again", x.choose(0, -1), -1);
    }

    private static void binding() {
        SenateRoll x = new SenateRoll();
        Check.same("promise 33: no student", x.binds(0, 5), -2);
        x.student(100);
        Check.same("promise 33: student -1", x.binds(-1, 5), -2);
        Check.same("promise 33: student 1", x.binds(1, 5), -2);
        Check.same("promise 33: day -1", x.binds(0, -1), -2);
        Check.same("promise 33: day 10000", x.binds(0, 10000), -2);
        Check.same("promise 33: none", x.binds(0, 5), -1);
        Texts.put(x, 0, "1");
        x.ordain(0, 0, 101, false);
        Check.same("promise 33: of a day behind the one it began", x.binds(0, 9999), -1);
        x.ordain(0, 0, 100, false);
        Check.same("promise 33: of the day it began", x.binds(0, 0), 1);
        x.ordain(0, 0, 90, false);
        Check.same("promise 33: the latest", x.binds(0, 0), 1);
        x.ordain(0, 0, 100, false);
        Check.same("promise 33: of like ones the greatest", x.binds(0, 0), 3);
        x.choose(0, 0);
        Check.same("promise 33: the one it chose", x.binds(0, 0), 0);
        x.ordain(0, 0, 200, true);
        Check.same("promise 33: ahead of one for all", x.binds(0, 199), 0);
        Check.same("promise 33: one for all", x.binds(0, 200), 4);
        x.ordain(0, 0, 150, true);
        Check.same("promise 33: the latest for all", x.binds(0, 200), 4);
        Check.same("promise 33: an earlier day", x.binds(0, 199), 5);
        x.ordain(0, 0, 200, true);
        Check.same("promise 33: of like ones for all the greatest", x.binds(0, 9999), 6);
        x.choose(0, -1);
        Check.same("promise 33: it chose none", x.binds(0, 149), 3);
        x.student(200);
        Check.same("promise 33: by the day it began, for all or not", x.binds(1, 0), 6);
        Check.same("promise 33: a choice ahead of that", x.choose(1, 2) * 10 + x.binds(1, 0), -8);
    }
}
