/**
 * Long thrown runs of calls, each answered by the program and by the model; the first that differs is shown. An object is
 * used for at most 512 calls: what later ones answer is free.
 */
public final class ModelTest {
    private static final int CALLS = 512, CALLS_OF_A_TURN = 100, CALLS_OF_A_TEXT = 82;
    private final Dice dice;
    private final TextDice texts;
    private final SenateRoll roll = new SenateRoll();
    private final Model model = new Model();
    private final int run;
    private final int lastDay;
    private final int courses;
    private int asked;

    private ModelTest(int run) {
        this.run = run;
        dice = new Dice(run);
        texts = new TextDice(dice);
        lastDay = dice.oneOf(20, 60, 200, 9999);
        courses = dice.oneIn(10) ? 14 : dice.between(2, 8);
    }

    public static void main(String[] args) {
        int runs = args.length > 0 ? Integer.parseInt(args[0]) : 900;
        for (int run = 1; run <= runs && Check.allIsWell(); run++) {
            new ModelTest(run).play();
        }
        faults(30 * runs);
        Check.end("ModelTest");
    }

    private static void faults(int texts) {
        TextDice dice = new TextDice(new Dice(texts));
        SenateRoll roll = new SenateRoll();
        for (int i = 0; i < texts; i++) {
            if (i % (CALLS / CALLS_OF_A_TEXT) == 0) {
                roll = new SenateRoll();
            }
            String text = dice.text();
            Texts.put(roll, 0, text);
            Check.same("the fault of '" + text + "'", roll.fault(0), Model.faultOf(text));
        }
    }

    private void same(String call, long got, long due, int... told) {
        asked++;
        if (got != due) {
            StringBuilder all = new StringBuilder("run " + run + ": " + call + "(");
            for (int i = 0; i < told.length; i++) {
                all.append(i == 0 ? "" : ", ").append(told[i]);
            }
            Check.same(all + ")", got, due);
        } else {
            Check.same(call, got, due);
        }
    }

    private void play() {
        for (int i = 0; i < courses; i++) {
            makeCourse();
        }
        int students = dice.oneIn(8) ? 20 : dice.between(1, 6);
        for (int i = 0; i < students; i++) {
            int began = day();
            same("student", roll.student(began), model.student(began), began);
        }
        for (int i = dice.between(1, 3); i > 0; i--) {
            makeBoard();
        }
        for (int i = dice.between(1, 5); i > 0; i--) {
            makeMeeting();
        }
        while (asked < CALLS - CALLS_OF_A_TURN && Check.allIsWell()) {
            turn();
            if (dice.oneIn(12)) {
                same("digest", roll.digest(), model.digest());
            }
        }
        same("digest", roll.digest(), model.digest());
    }

    private void turn() {
        switch (dice.below(12)) {
            case 0: case 1: case 2:
                makeMark();
                break;
            case 3: case 4:
                makeAct();
                break;
            case 5:
                makeRest();
                break;
            case 6:
                makeText();
                break;
            case 7:
                askActs();
                break;
            case 8: case 9:
                askStudents();
                break;
            case 10:
                askWays();
                break;
            default:
                askRest();
                break;
        }
    }

    private int day() {
        return dice.below(lastDay + 1);
    }

    /** A number that is most often of the range, now and then at its brink or far outside. */
    private int near(int least, int greatest) {
        if (dice.oneIn(40)) {
            return dice.oneOf(least - 1, greatest + 1, Integer.MAX_VALUE, Integer.MIN_VALUE, -1);
        }
        return greatest < least ? least : dice.oneIn(10) ? dice.oneOf(least, greatest) : dice.between(least, greatest);
    }

    private int nearDay() {
        return dice.oneIn(40) ? near(0, 9999) : dice.oneIn(20) ? 9999 : day();
    }

    private int there(int what) {
        return near(0, model.count(what) - 1);
    }

    private void makeCourse() {
        int credit = near(1, 60), n = model.count(0);
        int leans = dice.oneIn(2) ? 0 : near(0, (1 << n) - 1);
        leans = dice.oneIn(2) ? leans : leans & near(0, (1 << n) - 1);
        int terms = dice.oneIn(2) ? 7 : near(1, 7), cap = dice.oneIn(2) ? 100 : near(0, 100);
        same("course", roll.course(credit, leans, terms, cap), model.course(credit, leans, terms, cap), credit, leans, terms, cap);
    }

    private void makeBoard() {
        int seats = dice.oneIn(10) ? near(1, 1023) : dice.oneOf(1, 3, 7, 12, 513), quorum = dice.oneIn(8) ? near(1, 10) : 1;
        same("board", roll.board(seats, quorum), model.board(seats, quorum), seats, quorum);
    }

    private void makeMeeting() {
        int board = there(2), day = nearDay();
        int called = dice.oneIn(3) ? near(0, 1023) : 1023, sat = dice.oneIn(3) ? near(0, 1023) : 1023;
        same("meeting", roll.meeting(board, day, called, sat), model.meeting(board, day, called, sat), board, day, called, sat);
    }

    private void makeMark() {
        int v = dice.oneIn(3) ? near(35, 55) : near(0, 100), examiner = near(0, 4), day = nearDay();
        int known = dice.oneIn(2) ? day : day + near(0, 5);
        if (dice.oneIn(3)) {
            int mark = someMark();
            day = dice.oneIn(4) ? day : model.about(mark, 1) + dice.below(4);
            known = dice.oneIn(20) ? day - 1 : day + dice.below(9);
            same("second", roll.second(mark, v, examiner, day, known), model.second(mark, v, examiner, day, known),
                mark, v, examiner, day, known);
        } else {
            int student = there(1), course = there(0);
            same("mark", roll.mark(student, course, v, examiner, day, known),
                model.mark(student, course, v, examiner, day, known), student, course, v, examiner, day, known);
        }
    }

    private int someMark() {
        int act = there(4);
        for (int i = 0; i < 20 && model.about(act, 0) != 0; i++) {
            act = there(4);
        }
        return act;
    }

    private void makeAct() {
        int meeting = there(3), met = meeting >= 0 && meeting < model.count(3) ? model.metOn(meeting) : day();
        int known = dice.oneIn(20) ? nearDay() : met + dice.below(10);
        int student = there(1), course = there(0), act = there(4);
        switch (dice.below(6)) {
            case 0:
                int mark = someMark(), v = near(0, 100);
                same("moderate", roll.moderate(mark, v, meeting, known), model.moderate(mark, v, meeting, known),
                    mark, v, meeting, known);
                break;
            case 1:
                int times = near(1, 200), by = near(1, 200), and = near(-50, 50);
                same("scale", roll.scale(course, times, by, and, meeting, known),
                    model.scale(course, times, by, and, meeting, known), course, times, by, and, meeting, known);
                break;
            case 2:
                same("excuse", roll.excuse(student, course, meeting, known), model.excuse(student, course, meeting, known),
                    student, course, meeting, known);
                break;
            case 3:
                same("strike", roll.strike(act, meeting, known), model.strike(act, meeting, known), act, meeting, known);
                break;
            case 4:
                same("degree", roll.degree(student, meeting, known), model.degree(student, meeting, known),
                    student, meeting, known);
                break;
            default:
                int day = dice.oneIn(3) ? nearDay() : model.about(act, 1) + dice.below(40);
                same("appeal", roll.appeal(act, day), model.appeal(act, day), act, day);
                break;
        }
    }

    private void makeRest() {
        int student = there(1), course = there(0);
        boolean is = dice.oneIn(2);
        switch (dice.below(12)) {
            case 0:
                makeMeeting();
                break;
            case 1: case 2:
                int meeting = there(3);
                same("tear", roll.tear(meeting, is), model.tear(meeting, is), meeting);
                break;
            case 3:
                int n = dice.oneIn(2) ? 30 : near(0, 1000);
                same("days", roll.days(n), model.days(n), n);
                break;
            case 4: case 5:
                int ordinance = near(-1, model.count(5) - 1);
                same("choose", roll.choose(student, ordinance), model.choose(student, ordinance), student, ordinance);
                break;
            case 6: case 7:
                same("sits", roll.sits(student, course, is), model.sits(student, course, is), student, course);
                break;
            case 8:
                int odds = dice.oneIn(2) ? dice.between(1, 8) : near(1, 10000);
                same("odds", roll.odds(odds), model.odds(odds), odds);
                break;
            case 9:
                makeLine();
                break;
            case 10:
                int i = near(0, 1);
                same("image", roll.image(i), model.image(i), i);
                break;
            default:
                makeOrBack();
                break;
        }
    }

    private void makeLine() {
        int a = dice.oneIn(2) ? near(0, 1000) : dice.below(8), b = dice.oneIn(2) ? near(0, 1000) : dice.below(8);
        if (dice.oneIn(25)) {
            same("clear", roll.clear(), model.clear());
        } else {
            same("line", roll.line(a, b), model.line(a, b), a, b);
        }
    }

    private void makeOrBack() {
        int i = near(0, 1);
        if (dice.oneIn(2)) {
            same("from", roll.from(i), model.from(i), i);
        } else if (dice.oneIn(3)) {
            makeBoard();
        } else if (dice.oneIn(3) && model.count(0) < courses) {
            makeCourse();
        } else {
            int began = nearDay();
            same("student", roll.student(began), model.student(began), began);
        }
    }

    private void makeText() {
        int text = near(0, 7);
        if (dice.oneIn(3)) {
            same("erase", roll.erase(text), model.erase(text), text);
            String letters = texts.text();
            for (int i = 0; i < letters.length(); i++) {
                int c = dice.oneIn(900) ? near(0, 127) : letters.charAt(i);
                same("write", roll.write(text, c), model.write(text, c), text, c);
            }
        }
        same("fault", roll.fault(text), model.fault(text), text);
        if (dice.oneIn(2)) {
            int passes = near(0, 7), classes = near(0, 7), from = nearDay();
            boolean all = dice.oneIn(4);
            same("ordain", roll.ordain(passes, classes, from, all), model.ordain(passes, classes, from, all),
                passes, classes, from);
        }
        tellAll();
    }

    private void tellAll() {
        for (int text = 0; text < 8; text++) {
            int student = there(1), course = near(-1, model.count(0) - 1), day = nearDay(), k = nearDay();
            same("tells", roll.tells(text, student, course, day, k), model.tells(text, student, course, day, k),
                text, student, course, day, k);
        }
    }

    private void askActs() {
        int act = there(4), what = near(0, 7), k = nearDay(), step = near(0, 4), meeting = there(3);
        same("about", roll.about(act, what), model.about(act, what), act, what);
        same("counts", roll.counts(act, k), model.counts(act, k), act, k);
        int mark = someMark();
        same("step", roll.step(mark, step, k), model.step(mark, step, k), mark, step, k);
        same("stands", roll.stands(meeting), model.stands(meeting), meeting);
        same("count", roll.count(what), model.count(what), what);
    }

    private void askStudents() {
        int student = there(1), course = there(0), day = nearDay(), k = dice.oneIn(2) ? 9999 : nearDay();
        int what = near(0, 15), which = near(0, 2), meeting = there(3);
        same("outcome", roll.outcome(student, course, k, which), model.outcome(student, course, k, which),
            student, course, k, which);
        same("passed", roll.passed(student, day, k), model.passed(student, day, k), student, day, k);
        same("grade", roll.grade(student, day, k), model.grade(student, day, k), student, day, k);
        same("number", roll.number(student, day, k, what), model.number(student, day, k, what), student, day, k, what);
        same("edge", roll.edge(student, day, k), model.edge(student, day, k), student, day, k);
        same("roll", roll.roll(student, day, k), model.roll(student, day, k), student, day, k);
        same("hangs", roll.hangs(meeting, day, k), model.hangs(meeting, day, k), meeting, day, k);
        same("binds", roll.binds(student, day), model.binds(student, day), student, day);
    }

    private void askWays() {
        int student = there(1), set = near(0, (1 << model.count(0)) - 1), term = near(0, 2), n = near(1, 4);
        int day = nearDay(), k = nearDay(), i = near(0, 9);
        if (model.count(0) > 9) {
            set &= near(0, (1 << model.count(0)) - 1) & 0x1ff;
        }
        same("way", roll.way(student, set, term, n, day, k), model.way(student, set, term, n, day, k),
            student, set, term, n, day, k);
        same("wayAt", roll.wayAt(student, set, term, n, day, k, i), model.wayAt(student, set, term, n, day, k, i),
            student, set, term, n, day, k, i);
    }

    private void askRest() {
        int examiner = near(0, 4), k = nearDay(), what = near(0, 3), sum = dice.oneIn(3) ? near(0, 12000) : near(0, 60);
        same("habit", roll.habit(examiner, k, what), model.habit(examiner, k, what), examiner, k, what);
        same("doubt", roll.doubt(sum, what), model.doubt(sum, what), sum, what);
        int set = near(0, (1 << model.count(0)) - 1), seats = dice.oneIn(2) ? dice.between(1, 6) : near(1, 200);
        int course = there(0);
        same("hours", roll.hours(set, seats), model.hours(set, seats), set, seats);
        same("hourOf", roll.hourOf(set, seats, course), model.hourOf(set, seats, course), set, seats, course);
    }
}
