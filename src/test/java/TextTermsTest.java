/** The sentences of "Terms", part 3, that name a boundary: each has a test of its own, which bears its words. */
public final class TextTermsTest {
    private static final int LAST = 9999;

    private TextTermsTest() {
    }

    public static void main(String[] args) {
        eightyCharacters();
        deepestTexts();
        allSigns();
        wordsNearly();
        wrongPlaces();
        blanks();
        ends();
        openOnes();
        order();
        orderOfPairs();
        oneBehindTheOther();
        truths();
        wraps();
        cuts();
        best();
        bestInTexts();
        meanOfPassed();
        inACourse();
        leansInTexts();
        broughtToClass();
        edges();
        edgeOfNested();
        ordinanceDays();
        asTheyStandThen();
        rollDays();
        firstAndLastDegree();
        hangingStrikes();
        appealDays();
        Check.end("TextTermsTest");
    }

    /** What a text tells of a student alone who PASSED none. */
    private static long told(String text) {
        SenateRoll x = new SenateRoll();
        x.student(0);
        Texts.put(x, 0, text);
        return x.tells(0, 0, -1, 0, 0);
    }

    private static void tells(String text, long due) {
        Check.same("'" + text + "' tells", told(text), due);
    }

    private static void fault(String text, int due) {
        Check.same("FAULT of '" + text + "'", Texts.faultOf(text), due);
    }

    private static void eightyCharacters() {
        for (int text = 0; text < 8; text++) {
            SenateRoll x = new SenateRoll();
            x.student(0);
            for (int i = 1; i <= 79; i++) {
                Check.same("80 at most: how many", x.write(text, ' '), i);
            }
            Check.same("FAULT: the TEXT's length, of 79", x.fault(text), 791);
            Check.same("80 at most: the last", x.write(text, '7'), 80);
            Check.same("80 at most: one more", x.write(text, '7'), -4);
            Check.same("80 at most: the text is as it was", x.tells(text, 0, -1, 0, 0), 7);
            Check.same("80 at most: how many there were", x.erase(text), 80);
            Check.same("an empty one ends too early", x.fault(text), 1);
        }
        fault(Texts.repeat(" ", 80), 801);
        fault(Texts.repeat("7", 80), 2);
        fault(Texts.repeat(" ", 74) + "999999", -1);
        fault(Texts.repeat(" ", 73) + "9999999", 732);
        fault(Texts.repeat(" ", 79) + "(", 801);
        fault(Texts.repeat(" ", 79) + ")", 791);
        fault(Texts.repeat(" ", 79) + "x", 794);
        fault(Texts.repeat(" ", 78) + "or", 781);
    }

    /** As much as 80 characters can hold open. */
    private static void deepestTexts() {
        fault(Texts.repeat("-", 79) + "7", -1);
        tells(Texts.repeat("-", 79) + "7", -7);
        tells(Texts.repeat("-", 78) + "7", 7);
        tells(Texts.repeat("not ", 19) + "7", 0);
        tells(Texts.repeat("not ", 18) + "7", 1);
        tells(Texts.repeat("1+", 39) + "1", 40);
        tells(Texts.repeat("1 if 0 else ", 6) + "7", 7);
        tells(Texts.repeat("1 if 0 else ", 5) + "2 if 1 else 7", 2);
        tells("7" + Texts.repeat(" unless 0", 8), 7);
        tells("7" + Texts.repeat(" unless 0", 7) + " unless 1", 0);
        tells("7" + " unless 1" + Texts.repeat(" unless 0", 7), 0);
        tells(Texts.repeat("1-(", 8) + "1" + Texts.repeat(")", 8), 1);
        tells(Texts.repeat("2*(", 8) + "1" + Texts.repeat(")", 8), 256);
    }

    private static void allSigns() {
        String grammar = "()<>=+-*/ ";
        for (int c = 0; c <= 127; c++) {
            boolean letter = c >= 'a' && c <= 'z';
            boolean digit = c >= '0' && c <= '9';
            int first = digit ? -1 : letter ? 4 : c == ' ' || c == '(' || c == '-' ? 11 : 1;
            fault(String.valueOf((char) c), first);
            boolean operator = grammar.indexOf(c) >= 0 && c != '(' && c != ')' && c != ' ';
            int behind = digit ? -1 : letter ? 14 : c == ' ' ? -1 : operator ? 21 : 11;
            fault("7" + (char) c, behind);
        }
    }

    private static final String[] NAMES = {"mark", "tries", "excused", "leans", "course", "credit", "mean", "passed"};
    private static final String[] BEFORE_UNITS = {"not", "best"};
    private static final String[] BETWEEN = {"and", "or", "unless"};
    private static final String[] OF_CASES = {"if", "else"};

    private static void wordsNearly() {
        for (String[] words : new String[][] {NAMES, BEFORE_UNITS, BETWEEN, OF_CASES}) {
            for (String word : words) {
                fault(word.substring(0, word.length() - 1), 4);
                fault(word + "x", 4);
                fault("x" + word, 4);
                fault(word + word, 4);
                fault("7 " + word.substring(1), 24);
                fault("7 " + word + "s", 24);
                fault(word.substring(0, 1) + " " + word.substring(1), 4);
            }
        }
        fault("markmean", 4);
        fault("(notx", 14);
        fault("1 + andd", 44);
    }

    private static void wrongPlaces() {
        for (String name : NAMES) {
            fault(name, -1);
            fault("7 " + name, 21);
            fault("(7)" + name, 31);
            fault(name + " " + name, 10 * name.length() + 11);
            fault(name + "7", 10 * name.length() + 1);
        }
        for (String word : BEFORE_UNITS) {
            fault(word, 10 * word.length() + 1);
            fault("7 " + word + " 7", 21);
            fault(word + " and 7", 10 * word.length() + 11);
        }
        for (String word : BETWEEN) {
            fault(word + " 7", 1);
            fault("7 " + word, 10 * word.length() + 21);
            fault("7 " + word + " " + word + " 7", 10 * word.length() + 31);
            fault("(" + word + " 7)", 11);
            fault("not " + word, 41);
        }
        fault("if 7", 1);
        fault("else 7", 1);
        fault("7 if", 41);
        fault("7 else 7", 21);
        fault("7 if if", 51);
        fault("7 if 7 else if", 121);
        fault("7 if 7 else 7 else 7", 141);
        fault("7 if 7 if 7 else 7 else 7", 71);
        fault("7 if (7 if 7 else 7) else 7", -1);
        fault("7 if 7 unless 7 else 7", 71);
        fault("7 if (7 unless 7) else 7", -1);
        fault("7 unless 7 if 7 else 7", -1);
        fault("7 < 7 < 7", 61);
        fault("7 < 7 and 7 < 7", -1);
        fault("(7 < 7) < 7", -1);
        fault("7 < (7 < 7)", -1);
        fault("not 7 < 7", -1);
        fault("7 < not 7", -1);
    }

    private static void blanks() {
        fault("mark>39and leans", -1);
        fault("   mark   >   39   and   leans   ", -1);
        fault("ma rk", 4);
        fault("1 2", 21);
        fault("12 34", 31);
        fault("not7", -1);
        fault("not not7", -1);
        fault("notnot7", 4);
        fault("best1", -1);
        fault("7and 7", -1);
        fault("7and7or7", -1);
        fault("7if7else7", -1);
        fault("7unless7", -1);
        fault("7 elseif 7", 24);
        fault("7if7elseif", 44);
        fault("( ( 7 ) )", -1);
        tells("1 +   2*   3", 7);
        tells("2if1else3", 2);
    }

    private static void ends() {
        String[] early = {"", " ", "(", "( ", "7 +", "7 + ", "7 -", "7*", "7/ ", "7 <", "7>", "7 =  ", "not", "best ", "-", "- ",
            "7 if", "7 if 7", "7 if 7 ", "7 if 7 else", "7 unless ", "7 and", "7 or  ", "(7", "(7 ", "((7)", "(7 if 7 else 7",
            "7 if (7)", "not not", "best -", "7 if mark", "((((((((7)))))))"};
        for (String text : early) {
            fault(text, 10 * text.length() + 1);
        }
    }

    private static void openOnes() {
        fault("((((((((7))))))))", -1);
        fault("(((((((((7", 83);
        fault(" ( ( ( ( ( ( ( ( (7", 173);
        fault("((((((((7)+(7))))))))", -1);
        fault("((((((((7)+((7", 123);
        fault("((((((((7))))))))*((((((((7))))))))", -1);
        fault("((((((((7))))))))*(((((((((7", 263);
        fault("not(not(not(not(not(not(not(not(7))))))))", -1);
        fault("not(not(not(not(not(not(not(not(not(7", 353);
        fault("(((((((( (", 93);
        fault("((((((((7(", 91);
        fault("((((((((7))))))))(", 171);
        fault("((((((((7)))))))))", 171);
    }

    private static void order() {
        tells("2 + 3 * 4", 14);
        tells("(2 + 3) * 4", 20);
        tells("20 - 3 - 4", 13);
        tells("20 - (3 - 4)", 21);
        tells("100 / 5 / 2", 10);
        tells("100 / 5 * 2", 40);
        tells("7 * 5 / 2", 17);
        tells("7 / 2 * 5", 15);
        tells("- 3 - 4", -7);
        tells("- 3 * - 4", 12);
        tells("5 - - 4", 9);
        tells("1 < 2 + 3", 1);
        tells("1 + 2 < 3", 0);
        tells("1 + 2 = 3", 1);
        tells("4 > 1 + 2", 1);
        tells("1 < 2 and 4 < 3", 0);
        tells("1 < 2 or 4 < 3", 1);
        tells("1 or 1 and 0", 1);
        tells("0 and 1 or 1", 1);
        tells("not 0 and 0", 0);
        tells("not 1 or 1", 1);
        tells("not 2 = 0", 1);
        tells("not 2 + 5", 5);
        tells("not 0 * 5", 5);
        tells("7 if 1 or 0 else 8", 7);
        tells("7 or 0 if 1 else 8", 1);
        tells("7 if 0 else 8 or 0", 1);
        tells("7 if 0 else 8 if 0 else 9", 9);
        tells("7 if 1 else 8 if 0 else 9", 7);
        tells("(7 if 1 else 8) if 0 else 9", 9);
        tells("7 unless 0 unless 0", 7);
        tells("7 unless 1 unless 0", 0);
        tells("7 unless (1 unless 1)", 7);
        tells("7 unless 0 if 1 else 1", 7);
        tells("7 unless 1 if 1 else 0", 0);
        tells("7 if 0 else 8 unless 1", 0);
        tells("7 if 1 else (8 unless 1)", 7);
        tells("0 unless 0", 0);
        tells("-7 unless 0", -7);
    }

    private static final String[] OPERATORS = {"unless", "or", "and", "<", ">", "=", "+", "-", "*", "/"};
    private static final int[] BINDING = {0, 1, 2, 3, 3, 3, 4, 4, 5, 5};

    /** Of two operators the one that binds more, of like ones the first, is worked ahead; of two comparisons none can be. */
    private static void orderOfPairs() {
        int[][] numbers = {{7, 5, 3}, {0, 2, 1}, {1, 0, 2}, {9, 2, 0}, {1, 1, 1}, {20, 3, 4}};
        for (int i = 0; i < OPERATORS.length; i++) {
            for (int j = 0; j < OPERATORS.length; j++) {
                String first = " " + OPERATORS[i] + " ";
                String second = " " + OPERATORS[j] + " ";
                if (BINDING[i] == 3 && BINDING[j] == 3) {
                    fault("7" + first + "7" + second + "7", 61);
                    continue;
                }
                for (int[] n : numbers) {
                    String plain = n[0] + first + n[1] + second + n[2];
                    String open = BINDING[j] > BINDING[i] ? n[0] + first + "(" + n[1] + second + n[2] + ")"
                        : "(" + n[0] + first + n[1] + ")" + second + n[2];
                    Check.same("'" + plain + "' tells as '" + open + "'", told(plain), told(open));
                }
            }
        }
    }

    /** What a text with a FAULT leaves open does not matter to the next one. */
    private static void oneBehindTheOther() {
        String[] faulty = {"((((((((", "(((((((((", "((((1", "1 if 2", "1 if (2", "1+(2*(3-(", "1 unless 2 if 3", "not not", "1 < 2 <",
            "best best -", "1 +", "1234567", "(foo", ""};
        SenateRoll x = new SenateRoll();
        x.student(0);
        Texts.put(x, 1, "((((((((7))))))))");
        Texts.put(x, 2, "1 if 0 else 2");
        Texts.put(x, 3, "5");
        for (String text : faulty) {
            Texts.put(x, 0, text);
            Check.same("a FAULT", x.fault(0) >= 0 ? 1 : 0, 1);
            Check.same("FAULT of eight open, behind '" + text + "'", x.fault(1), -1);
            Check.same("a FAULT once more", x.tells(0, 0, -1, 0, 0), -3000000000000000000L);
            Check.same("eight open, behind '" + text + "'", x.tells(1, 0, -1, 0, 0), 7);
            x.fault(0);
            Check.same("cases, behind '" + text + "'", x.tells(2, 0, -1, 0, 0), 2);
            Check.same("refused for '" + text + "'", x.ordain(0, 3, 0, true), -3);
            Check.same("a number, behind '" + text + "'", x.tells(3, 0, -1, 0, 0), 5);
        }
    }

    private static void truths() {
        for (int a = -2; a <= 2; a++) {
            for (int b = -2; b <= 2; b++) {
                boolean one = a != 0;
                boolean other = b != 0;
                tells(a + " and " + b, one && other ? 1 : 0);
                tells(a + " or " + b, one || other ? 1 : 0);
                tells(a + " < " + b, a < b ? 1 : 0);
                tells(a + " > " + b, a > b ? 1 : 0);
                tells(a + " = " + b, a == b ? 1 : 0);
                tells(a + " unless " + b, other ? 0 : a);
                tells("5 if " + a + " else " + b, one ? 5 : b);
                tells(a + " / " + b, b == 0 ? 0 : a / b);
            }
            tells("not " + a, a == 0 ? 1 : 0);
            tells("not(" + a + ")", a == 0 ? 1 : 0);
        }
    }

    private static void wraps() {
        // 65536 * 65536 * 65536 * 32768 wraps to the least long.
        String least = "65536*65536*65536*32768";
        tells(least, Long.MIN_VALUE);
        tells(least + "-1", Long.MAX_VALUE);
        tells(least + "-1+1", Long.MIN_VALUE);
        tells(least + "*2", 0);
        tells(least + "/(0-1)", Long.MIN_VALUE);
        tells(least + "/2", Long.MIN_VALUE / 2);
        tells(least + "/0", 0);
        tells("-(" + least + ")", Long.MIN_VALUE);
        tells("-(" + least + "-1)", -Long.MAX_VALUE);
        tells("0-" + least, Long.MIN_VALUE);
        tells(least + "<0", 1);
        tells(least + "-1>0", 1);
        tells("(" + least + "-1)*(" + least + "-1)", 1);
        tells("not(" + least + ")", 0);
        tells("65536*65536 and 1", 1);
        tells("3 if 65536*65536 else 4", 3);
        tells("3 unless 65536*65536", 0);
        tells("65536*65536=0", 0);
        tells("999999*999999", 999998000001L);
    }

    private static void cuts() {
        tells("7/2", 3);
        tells("-7/2", -3);
        tells("7/-2", -3);
        tells("-7/-2", 3);
        tells("1/2", 0);
        tells("-1/2", 0);
        tells("6/3", 2);
        tells("0/0", 0);
        tells("0/7", 0);
        tells("7/0", 0);
        tells("-7/0", 0);
        tells("7/(2-2)+1", 1);
    }

    /** All 14 courses, of which the first so many are passed, with the finals 50, 51 and so on. */
    private static SenateRoll passing(int many) {
        SenateRoll x = new SenateRoll();
        x.student(0);
        for (int i = 0; i < 14; i++) {
            x.course(10, 0, 7, 100);
            x.mark(0, i, i < many ? 50 + i : 39, 0, 1, 1);
        }
        return x;
    }

    private static long bestOf(int many, int n) {
        long together = 0;
        for (int i = 0; i < n; i++) {
            together += 50 + many - 1 - i;
        }
        return n >= 1 && n <= many ? together * 100 / n : 0;
    }

    private static void best() {
        for (int many : new int[] {0, 1, 2, 3, 13, 14}) {
            SenateRoll x = passing(many);
            for (int n = 1; n <= 14; n++) {
                Check.same("best " + n + " of " + many + " PASSED", x.number(0, 1, 1, n), bestOf(many, n));
            }
            Check.same("number 0 is the mean", x.number(0, 1, 1, 0), many == 0 ? 0 : (99 + many) * 50);
            Check.same("number 15 is the credit", x.number(0, 1, 1, 15), 10 * many);
        }
    }

    private static void bestInTexts() {
        // What would be 1, 2 or 14 if it were cut to 32 bits is not.
        String[] texts = {"best 0", "best 1", "best 2", "best 13", "best 14", "best 15", "best 999999", "best -1", "best -14",
            "best(65536*65536+1)", "best(65536*65536+14)", "best(65536*65536*65536*32768)", "best best 1", "best passed",
            "best not 0", "best(0 - 65536*65536 + 2)"};
        int[] n = {0, 1, 2, 13, 14, 15, 15, -1, -14, 0, 0, 0, 5000, 14, 1, 0};
        for (int i = 0; i < texts.length; i++) {
            SenateRoll x = passing(14);
            Texts.put(x, 0, texts[i]);
            Check.same(texts[i] + " of 14 PASSED", x.tells(0, 0, -1, 1, 1), bestOf(14, n[i]));
            Check.same(texts[i] + " in a COURSE", x.tells(0, 0, 3, 1, 1), 0);
        }
        SenateRoll x = passing(1);
        Texts.put(x, 0, "best 1 - best 2");
        Check.same("fewer are PASSED", x.tells(0, 0, -1, 1, 1), 5000);
    }

    private static void meanOfPassed() {
        SenateRoll x = new SenateRoll();
        x.student(0);
        Texts.put(x, 0, "tries or course = 1");
        Texts.put(x, 1, "0");
        x.ordain(0, 1, 0, true);
        Check.same("mean: 0 without", x.number(0, 1, 1, 0), 0);
        x.course(3, 0, 7, 100);
        x.course(4, 0, 7, 100);
        Check.same("PASSED without a FINAL: its FINAL is 0", x.number(0, 1, 1, 0), 0);
        Check.same("PASSED without a FINAL: best 1", x.number(0, 1, 1, 1), 0);
        x.mark(0, 0, 50, 0, 1, 1);
        Check.same("mean, cut", x.number(0, 1, 1, 0), 50 * 3 * 100 / 7);
        Check.same("best 2, those without FINAL 0", x.number(0, 1, 1, 2), 2500);
        x.mark(0, 1, 75, 0, 1, 1);
        Check.same("mean of both", x.number(0, 1, 1, 0), (50 * 3 + 75 * 4) * 100 / 7);
        Check.same("best 2, cut", x.number(0, 1, 1, 2), 6250);
    }

    /** In a COURSE what is told of the STUDENT alone tells 0, also for what PASSES. */
    private static void inACourse() {
        SenateRoll x = passing(2);
        String[] names = {"mean", "credit", "passed", "best 1", "best 2"};
        for (int i = 0; i < names.length; i++) {
            Texts.put(x, 0, names[i]);
            Texts.put(x, 1, "not " + names[i]);
            Check.same(names[i] + " in a COURSE", x.tells(0, 0, 0, 1, 1), 0);
            x.ordain(0, 0, 10 * i + 10, true);
            x.ordain(1, 0, 10 * i + 15, true);
            Check.same("PASSES by " + names[i], x.passed(0, 10 * i + 10, 1), 0);
            Check.same("PASSES by not " + names[i], x.passed(0, 10 * i + 15, 1), 16383);
        }
        x = passing(2);
        String[] ofCourses = {"tries", "excused", "leans", "course"};
        for (String name : ofCourses) {
            Texts.put(x, 0, name);
            Check.same(name + " of the STUDENT alone", x.tells(0, 0, -1, 1, 1), 0);
        }
        Texts.put(x, 0, "mark");
        Check.same("mark of the STUDENT alone", x.tells(0, 0, -1, 1, 1), -1);
        Check.same("mark in a COURSE", x.tells(0, 0, 1, 1, 1), 51);
        Check.same("mark in a COURSE: none", x.tells(0, 0, 1, 1, 0), -1);
    }

    private static void leansInTexts() {
        SenateRoll x = new SenateRoll();
        x.student(0);
        x.course(1, 0, 7, 100);
        x.course(1, 0, 7, 100);
        x.course(1, 3, 7, 100);
        Texts.put(x, 0, "leans");
        Check.same("leans on none: 1", x.tells(0, 0, 0, 1, 9), 1);
        Check.same("leans on two, none PASSED", x.tells(0, 0, 2, 1, 9), 0);
        x.mark(0, 0, 40, 0, 1, 1);
        Check.same("leans on two, one PASSED", x.tells(0, 0, 2, 1, 9), 0);
        x.mark(0, 1, 40, 0, 2, 2);
        Check.same("leans on two, both PASSED", x.tells(0, 0, 2, 1, 9), 1);
        Check.same("leans on two, as KNOWN before", x.tells(0, 0, 2, 1, 1), 0);
        Check.same("leans, alone", x.tells(0, 0, -1, 1, 9), 0);
    }

    /** A house in which an ordinance for all has this CLASS, and the only course is passed with 50. */
    private static SenateRoll classed(String classes) {
        SenateRoll x = new SenateRoll();
        x.student(0);
        x.course(10, 0, 7, 100);
        x.mark(0, 0, 50, 0, 1, 1);
        Texts.put(x, 0, "mark>39");
        Texts.put(x, 1, classes);
        x.ordain(0, 1, 0, true);
        return x;
    }

    private static void broughtToClass() {
        String[] texts = {"-1", "0", "1", "8", "9", "10", "999999", "-999999", "65536*65536", "65536*65536+5", "5-65536*65536",
            "65536*65536*65536*32768", "65536*65536*65536*32768-1", "passed", "mean/1000", "mark", "credit"};
        int[] due = {0, 0, 1, 8, 9, 9, 9, 0, 9, 9, 0, 0, 9, 1, 5, 0, 9};
        for (int i = 0; i < texts.length; i++) {
            Check.same("THE CLASS by " + texts[i] + ", brought to 0 .. 9", classed(texts[i]).grade(0, 1, 1), due[i]);
        }
    }

    private static void edge(String classes, int due) {
        Check.same("THE EDGE by " + classes, classed(classes).edge(0, 1, 1), due);
    }

    private static void edges() {
        edge("1 if mean > 5000 else 0", 1);
        edge("1 if mean > 4999 else 0", -1);
        edge("1 if mean > 6998 else 0", 1999);
        edge("1 if mean > 6999 else 0", 2000);
        edge("1 if mean > 7000 else 0", -1);
        edge("1 if best 1 > 6999 else 0", 2000);
        edge("1 if best 1 > 7000 else 0", -1);
        edge("best 2 > 1999", 2000);
        edge("best 2 > 2000", -1);
        edge("1 if mean < 5001 else 0", 1);
        edge("1 if mean < 7000 else 0", 2000);
        edge("1 if mean < 7001 else 0", -1);
        edge("mean = 5002", 2);
        edge("7 unless mean = 5003", 3);
        edge("mean / 100", -1);
        edge("mean - 4991", -1);
        edge("mean - 4992", 1);
        edge("mean - 5000", 1);
        edge("mean - 5500", 501);
        edge("7", -1);
        edge("passed", -1);
        edge("0 * mean", -1);
        edge("mean - best 1", -1);
        edge("mean + best 1 > 10003", 2);
        edge("mark + tries + excused + leans + course + credit / 9 + passed", -1);
    }

    /** Added to whatever mean and best tell: also to what another best is told. */
    private static void edgeOfNested() {
        edge("best(mean - 5000) > 5001", -1);
        edge("best(mean - 5000) > 5000", 1);
        edge("best(mean - 5002) > 5000", 3);
        edge("best best 9 > 1999", 1);
        edge("best best 9 > 5001", -1);
        SenateRoll x = classed("mean > 5000");
        Texts.put(x, 2, "mark > 39 + mean");
        x.ordain(2, 1, 5, true);
        Check.same("THE EDGE: what PASSES is asked of COURSES", x.edge(0, 5, 1), 1);
        Check.same("THE EDGE by credit / 10: none", passing(3).edge(0, 1, 1), -1);
    }

    private static void ordinanceDays() {
        SenateRoll x = new SenateRoll();
        x.student(50);
        x.student(49);
        x.student(0);
        x.student(LAST);
        Texts.put(x, 0, "1");
        x.ordain(0, 0, 50, false);
        Check.same("from the DAY it began: that day", x.binds(0, 0), 0);
        Check.same("from the DAY it began: a day ahead", x.binds(1, LAST), -1);
        Check.same("from the DAY it began: the first day of all", x.binds(2, LAST), -1);
        Check.same("from the DAY it began: the last", x.binds(3, 0), 0);
        x.ordain(0, 0, 0, false);
        Check.same("from the first day of all: the later one binds", x.binds(0, 0), 0);
        Check.same("from the first day of all", x.binds(2, 0), 1);
        x.ordain(0, 0, LAST, true);
        Check.same("for ALL from the last day: the day ahead", x.binds(0, 9998), 0);
        Check.same("for ALL from the last day", x.binds(0, LAST), 2);
        Check.same("for ALL, by the DAY it began", x.binds(3, 0), 2);
        x.ordain(0, 0, LAST, true);
        x.ordain(0, 0, 9998, true);
        Check.same("for ALL: of like ones the greatest number", x.binds(1, LAST), 3);
        Check.same("for ALL: of that day or earlier", x.binds(1, 9998), 4);
        x.choose(1, 1);
        Check.same("for ALL ahead of the one it chose", x.binds(1, LAST), 3);
        Check.same("the one it chose", x.binds(1, 9997), 1);
        x.choose(1, 2);
        Check.same("it chose one from a later day", x.binds(1, 0), 2);
        x.choose(1, -1);
        Check.same("none", x.binds(1, 9997), 1);
    }

    private static void asTheyStandThen() {
        SenateRoll x = classed("7");
        Texts.put(x, 0, "0");
        Texts.put(x, 1, "3");
        Check.same("a TEXT for what PASSES, as it stood then", x.passed(0, 1, 1), 1);
        Check.same("a TEXT for the CLASS, as it stood then", x.grade(0, 1, 1), 7);
        x.erase(0);
        x.erase(1);
        Check.same("erased since", x.passed(0, 1, 1) * 10 + x.grade(0, 1, 1), 17);
        Texts.put(x, 5, "passed");
        Check.same("one TEXT for both", x.ordain(5, 5, 2, true), 1);
        Check.same("in a COURSE passed tells 0", x.passed(0, 2, 1), 0);
        for (int n = 2; n < 10; n++) {
            Texts.put(x, 1, String.valueOf(n));
            Texts.put(x, 0, n % 2 == 0 ? "1" : "0");
            Check.same("ORDINANCES 0 .. 9, as they come", x.ordain(0, 1, 10 * n, true), n);
        }
        Check.same("ORDINANCES: one more", x.ordain(0, 1, 5, true), -4);
        for (int n = 2; n < 10; n++) {
            Check.same("each with its own CLASS", x.grade(0, 10 * n, 1), n);
            Check.same("each with what PASSES by it", x.passed(0, 10 * n + 9, 1), n % 2 == 0 ? 1 : 0);
        }
    }

    private static void rollDays() {
        SenateRoll x = classed("7");
        x.board(1, 1);
        for (int day : new int[] {0, 20, 10, LAST}) {
            x.meeting(0, day, 1, 1);
        }
        Check.same("THE ROLL without a DEGREE", x.roll(0, LAST, LAST), -1);
        x.degree(0, 0, 0);
        Check.same("THE ROLL: a DEGREE of the first day", x.roll(0, 0, 0), 7);
        Texts.put(x, 2, "8");
        Texts.put(x, 3, "9");
        Texts.put(x, 4, "6");
        x.ordain(0, 2, 20, true);
        x.ordain(0, 3, 10, true);
        x.ordain(0, 4, LAST, true);
        x.degree(0, 1, 25);
        x.degree(0, 2, 25);
        x.degree(0, 3, LAST);
        int[][] due = {{0, LAST, 7}, {9, LAST, 7}, {10, LAST, 9}, {19, LAST, 9}, {20, LAST, 8}, {9998, LAST, 8}, {LAST, LAST, 6},
            {LAST, 9998, 8}, {LAST, 24, 7}, {20, 25, 8}, {19, 24, 7}};
        for (int[] one : due) {
            Check.same("THE ROLL on a DAY AS KNOWN: " + Twins.named("", one), x.roll(0, one[0], one[1]), one[2]);
        }
        x.tear(1, true);
        Check.same("the latest that COUNTS", x.roll(0, 9998, LAST), 9);
        x.tear(2, true);
        Check.same("the one ahead of it", x.roll(0, 9998, LAST), 7);
        x.tear(0, true);
        Check.same("none that COUNTS", x.roll(0, 9998, LAST), -1);
    }

    /** A DEGREE that is the first ACT of all, and the last that there can be. */
    private static void firstAndLastDegree() {
        SenateRoll x = new SenateRoll();
        x.student(0);
        x.student(0);
        x.board(1, 1);
        x.meeting(0, 5, 1, 1);
        x.degree(0, 0, 5);
        Check.same("THE ROLL by the ACT 0", x.roll(0, 5, 5), 0);
        Check.same("THE ROLL of another STUDENT", x.roll(1, 5, 5), -1);
        x.strike(0, 0, 6);
        Check.same("THE ROLL: the ACT 0 is STRUCK", x.roll(0, 5, 6), -1);
        for (int i = 2; i < 249; i++) {
            x.degree(0, 0, 6);
        }
        Check.same("THE ROLL of another STUDENT: not yet", x.roll(1, 5, 6), -1);
        Check.same("the last ACT", x.degree(1, 0, 6), 249);
        Check.same("THE ROLL by the ACT 249", x.roll(1, 5, 6), 0);
        Check.same("WHAT HANGS on the MEETING of all", x.hangs(0, 5, 6), 3);
    }

    private static void hangingStrikes() {
        SenateRoll x = new SenateRoll();
        for (int i = 0; i < 20; i++) {
            x.student(0);
        }
        x.course(10, 0, 7, 100);
        x.board(1, 1);
        x.meeting(0, 10, 1, 1);
        x.meeting(0, 10, 1, 1);
        int due = 0;
        for (int i = 0; i < 20; i += 3) {
            int mark = x.mark(i, 0, 40, 0, 1, 1);
            Check.same("WHAT HANGS: not yet", x.hangs(0, 5, LAST), due);
            x.strike(mark, 0, 10 + i);
            due |= 1 << i;
            Check.same("WHAT HANGS on a MEETING (bits)", x.hangs(0, 5, LAST), due);
            Check.same("WHAT HANGS, as KNOWN a day ahead", x.hangs(0, 5, 9 + i), i == 0 ? 0 : due & ~(1 << i));
        }
        Check.same("WHAT HANGS on another", x.hangs(1, 5, LAST), 0);
        x.tear(1, true);
        Check.same("on one that is VOID", x.hangs(1, 5, LAST), -3);
        x.tear(0, true);
        Check.same("on one that is VOID, with all that hung on it", x.hangs(0, 5, LAST), -3);
        x.tear(0, false);
        Check.same("and not VOID", x.hangs(0, 5, LAST), due);
    }

    private static void appealDays() {
        for (int days : new int[] {0, 1, 30, 999, 1000}) {
            SenateRoll x = new SenateRoll();
            x.student(0);
            x.board(1, 1);
            x.meeting(0, 100, 1, 1);
            x.degree(0, 0, 500);
            if (days != 30) {
                x.days(days);
            }
            Check.same("APPEAL DAYS: a day ahead of the ACT", x.appeal(0, 99), -3);
            Check.same("APPEAL DAYS: behind the last of " + days, x.appeal(0, 101 + days), -3);
            Check.same("APPEAL DAYS: its first", x.appeal(0, 100), 1);
            Check.same("APPEAL DAYS: the last of " + days, x.appeal(0, 100 + days), 2);
            Check.same("a STRIKE by none, KNOWN at once", x.about(2, 2), 100 + days);
            Check.same("a STRIKE by none: its DAY", x.about(2, 1), 100 + days);
            Check.same("a STRIKE by none: no MEETING", x.about(2, 3), -1);
            Check.same("against a STRIKE by none", x.appeal(1, 100), -3);
            Check.same("what they were", x.days(7), days);
            Check.same("the days as they are now", x.appeal(0, 108), -3);
        }
    }
}
