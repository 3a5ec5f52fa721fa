import java.math.BigInteger;
import java.util.ArrayList;
import java.util.Arrays;
import java.util.Collections;
import java.util.Comparator;
import java.util.HashMap;
import java.util.List;
import java.util.Map;

/**
 * The document once more, in other ways than the program: everything is worked out anew at each call, by recursion,
 * lists and big numbers, and by trying all there is. ModelTest holds the program against it.
 */
final class Model {
    static final int NONE = -1, BAD = -2, NO = -3, FULL = -4;

    static final class Act {
        int sort, day, known, meeting = NONE, student = NONE, course = NONE, of = NONE, v = NONE, examiner, times, by, and;
    }

    static final class Ordinance {
        Node passes, classes;
        int from;
        boolean all;
    }

    /** What never changes once it is made is shared by the images; the rest is copied by snapshot. */
    private List<int[]> courses = new ArrayList<>(), students = new ArrayList<>(), boards = new ArrayList<>();
    private List<int[]> meetings = new ArrayList<>(), lines = new ArrayList<>();
    private List<Act> acts = new ArrayList<>();
    private List<Ordinance> ordinances = new ArrayList<>();
    private String[] texts = {"", "", "", "", "", "", "", ""};
    private int appealDays = 30, odds = 20;
    private final Model[] images = new Model[2];

    // ---- refusals

    private static boolean in(long v, long a, long b) {
        return a <= v && v <= b;
    }

    private static boolean day(int d) {
        return in(d, 0, 9999);
    }

    private boolean isStudent(int s) {
        return in(s, 0, students.size() - 1);
    }

    private boolean isCourse(int c) {
        return in(c, 0, courses.size() - 1);
    }

    private boolean byMeeting(int m, int known) {
        return in(m, 0, meetings.size() - 1) && in(known, meetings.get(m)[1], 9999);
    }

    private boolean isMark(int a) {
        return in(a, 0, acts.size() - 1) && acts.get(a).sort == 0;
    }

    private static int add(List<int[]> list, int limit, int... row) {
        if (list.size() == limit) {
            return FULL;
        }
        list.add(row);
        return list.size() - 1;
    }

    private int add(Act act) {
        if (acts.size() == 250) {
            return FULL;
        }
        acts.add(act);
        return acts.size() - 1;
    }

    private Act act(int sort, int meeting, int known) {
        Act a = new Act();
        a.sort = sort;
        a.meeting = meeting;
        a.day = meeting == NONE ? NONE : meetings.get(meeting)[1];
        a.known = known;
        return a;
    }

    // ---- courses, students, boards

    int course(int credit, int leans, int terms, int cap) {
        boolean told = in(credit, 1, 60) && in(leans, 0, (1 << courses.size()) - 1) && in(terms, 1, 7) && in(cap, 0, 100);
        return told ? add(courses, 14, credit, leans, terms, cap) : BAD;
    }

    int student(int began) {
        return day(began) ? add(students, 20, began, NONE, 0) : BAD;
    }

    int board(int seats, int quorum) {
        return in(seats, 1, 1023) && in(quorum, 1, 10) ? add(boards, 4, seats, quorum) : BAD;
    }

    int meeting(int board, int day, int called, int sat) {
        boolean told = in(board, 0, boards.size() - 1) && day(day) && in(called, 0, 1023) && in(sat, 0, 1023);
        return told ? add(meetings, 40, board, day, called, sat, 0) : BAD;
    }

    /** Asked by ModelTest alone, which wants acts that are known on the day of their meeting or soon after. */
    int metOn(int meeting) {
        return meetings.get(meeting)[1];
    }

    int tear(int meeting, boolean is) {
        if (!in(meeting, 0, meetings.size() - 1)) {
            return BAD;
        }
        if ((meetings.get(meeting)[4] == 1) == is) {
            return NO;
        }
        int[] row = meetings.get(meeting).clone();
        row[4] = is ? 1 : 0;
        meetings.set(meeting, row);
        return 1;
    }

    int stands(int meeting) {
        return in(meeting, 0, meetings.size() - 1) ? stands(meeting, NONE) ? 1 : 0 : BAD;
    }

    private boolean stands(int meeting, int voided) {
        int[] m = meetings.get(meeting);
        int sat = 0;
        for (int seat = 0; seat < 10; seat++) {
            if ((boards.get(m[0])[0] >> seat & 1) == 1) {
                if ((m[2] >> seat & 1) == 0) {
                    return false;
                }
                sat += m[3] >> seat & 1;
            }
        }
        return m[4] == 0 && meeting != voided && sat >= boards.get(m[0])[1];
    }

    // ---- acts

    int mark(int student, int course, int v, int examiner, int day, int known) {
        boolean told = isStudent(student) && isCourse(course) && in(v, 0, 100) && in(examiner, 0, 4) && day(day)
            && in(known, day, 9999);
        if (!told) {
            return BAD;
        }
        Act a = act(0, NONE, known);
        a.student = student;
        a.course = course;
        a.v = v;
        a.examiner = examiner;
        a.day = day;
        return add(a);
    }

    int second(int mark, int v, int examiner, int day, int known) {
        if (!isMark(mark) || !in(v, 0, 100) || !in(examiner, 0, 4) || !day(day) || !in(known, day, 9999)) {
            return BAD;
        }
        if (acts.get(mark).examiner == examiner || day < acts.get(mark).day) {
            return BAD;
        }
        Act a = act(1, NONE, known);
        a.of = mark;
        a.v = v;
        a.examiner = examiner;
        a.day = day;
        return add(a);
    }

    int moderate(int mark, int v, int meeting, int known) {
        if (!isMark(mark) || !in(v, 0, 100) || !byMeeting(meeting, known)) {
            return BAD;
        }
        Act a = act(2, meeting, known);
        a.of = mark;
        a.v = v;
        return add(a);
    }

    int scale(int course, int times, int by, int and, int meeting, int known) {
        if (!isCourse(course) || !in(times, 1, 200) || !in(by, 1, 200) || !in(and, -50, 50) || !byMeeting(meeting, known)) {
            return BAD;
        }
        Act a = act(3, meeting, known);
        a.course = course;
        a.times = times;
        a.by = by;
        a.and = and;
        return add(a);
    }

    int excuse(int student, int course, int meeting, int known) {
        if (!isStudent(student) || !isCourse(course) || !byMeeting(meeting, known)) {
            return BAD;
        }
        Act a = act(4, meeting, known);
        a.student = student;
        a.course = course;
        return add(a);
    }

    int strike(int act, int meeting, int known) {
        if (!in(act, 0, acts.size() - 1) || !byMeeting(meeting, known)) {
            return BAD;
        }
        Act a = act(5, meeting, known);
        a.of = act;
        return add(a);
    }

    int degree(int student, int meeting, int known) {
        if (!isStudent(student) || !byMeeting(meeting, known)) {
            return BAD;
        }
        Act a = act(6, meeting, known);
        a.student = student;
        return add(a);
    }

    int appeal(int act, int day) {
        if (!in(act, 0, acts.size() - 1) || !day(day)) {
            return BAD;
        }
        Act of = acts.get(act);
        if (of.meeting == NONE || day < of.day || day - of.day > appealDays) {
            return NO;
        }
        Act a = act(5, NONE, day);
        a.day = day;
        a.of = act;
        return add(a);
    }

    int days(int n) {
        int were = appealDays;
        if (!in(n, 0, 1000)) {
            return BAD;
        }
        appealDays = n;
        return were;
    }

    int about(int act, int what) {
        if (!in(act, 0, acts.size() - 1) || !in(what, 0, 7)) {
            return BAD;
        }
        Act a = acts.get(act);
        return new int[] {a.sort, a.day, a.known, a.meeting, a.student, a.course, a.of, a.v}[what];
    }

    int counts(int act, int k) {
        return in(act, 0, acts.size() - 1) && day(k) ? counts(act, k, NONE) ? 1 : 0 : BAD;
    }

    private boolean counts(int act, int k, int voided) {
        Act a = acts.get(act);
        if (a.known > k || a.meeting != NONE && !stands(a.meeting, voided)) {
            return false;
        }
        for (int other = act + 1; other < acts.size(); other++) {
            if (acts.get(other).sort == 5 && acts.get(other).of == act && counts(other, k, voided)) {
                return false;
            }
        }
        return true;
    }

    // ---- marks, passes, classes

    /** A view of the house as known at k, perhaps with one meeting void. */
    private final class View {
        final int k, voided;
        final Map<Integer, Boolean> counting = new HashMap<>(), passing = new HashMap<>();

        View(int k, int voided) {
            this.k = k;
            this.voided = voided;
        }

        boolean counts(int act) {
            return counting.computeIfAbsent(act, a -> Model.this.counts(a, k, voided));
        }

        Act last(int sort, int of) {
            Act last = null;
            for (int a = 0; a < acts.size(); a++) {
                if (acts.get(a).sort == sort && acts.get(a).of == of && counts(a)) {
                    last = acts.get(a);
                }
            }
            return last;
        }

        List<Integer> marks(int student, int course) {
            List<Integer> marks = new ArrayList<>();
            for (int a = 0; a < acts.size(); a++) {
                Act act = acts.get(a);
                if (act.sort == 0 && act.student == student && act.course == course && counts(a)) {
                    marks.add(a);
                }
            }
            marks.sort(Comparator.comparing((Integer a) -> acts.get(a).day).thenComparing(a -> a));
            return marks;
        }

        int step(int mark, int step) {
            Act m = acts.get(mark);
            if (step == 0) {
                return m.v;
            }
            int v = step(mark, step - 1);
            if (step == 1) {
                Act s = last(1, mark);
                return s == null ? v : Math.abs(s.v - v) > 10 ? Math.min(s.v, v) : (s.v + v) / 2;
            }
            if (step == 2) {
                Act s = last(2, mark);
                return s == null ? v : s.v;
            }
            if (step == 3) {
                Act s = null;
                for (int a = 0; a < acts.size(); a++) {
                    Act act = acts.get(a);
                    if (act.sort == 3 && act.course == m.course && act.day >= m.day && counts(a)) {
                        s = act;
                    }
                }
                return s == null ? v : Math.max(0, Math.min(100, v * s.times / s.by + s.and));
            }
            return marks(m.student, m.course).get(0) == mark ? v : Math.min(v, courses.get(m.course)[3]);
        }

        int finalOf(int student, int course) {
            int best = NONE;
            for (int mark : marks(student, course)) {
                best = Math.max(best, step(mark, 4));
            }
            return best;
        }

        int excused(int student, int course) {
            for (int a = 0; a < acts.size(); a++) {
                Act act = acts.get(a);
                if (act.sort == 4 && act.student == student && act.course == course && counts(a)) {
                    return 1;
                }
            }
            return 0;
        }

        boolean passes(int student, int course, int day) {
            int key = (student * 14 + course) * 10000 + day;
            Boolean found = passing.get(key);
            if (found == null) {
                found = worksToPass(student, course, day);
                passing.put(key, found);
            }
            return found;
        }

        private boolean worksToPass(int student, int course, int day) {
            int o = binds(student, day);
            Eval e = new Eval(this, student, course, day, 0);
            if (o == NONE) {
                return finalOf(student, course) >= 40 && e.leans();
            }
            return ordinances.get(o).passes.work(e) != 0;
        }

        int passed(int student, int day) {
            int set = 0;
            for (int c = 0; c < courses.size(); c++) {
                set |= passes(student, c, day) ? 1 << c : 0;
            }
            return set;
        }

        int grade(int student, int day, int more) {
            int o = binds(student, day);
            Eval e = new Eval(this, student, NONE, day, more);
            long told = o == NONE ? e.credit() / 10 : ordinances.get(o).classes.work(e);
            return told < 0 ? 0 : told > 9 ? 9 : (int) told;
        }

        int roll(int student, int day) {
            int on = NONE;
            for (int a = 0; a < acts.size(); a++) {
                Act act = acts.get(a);
                if (act.sort == 6 && act.student == student && act.day <= day && counts(a)) {
                    on = Math.max(on, act.day);
                }
            }
            return on == NONE ? NONE : grade(student, on, 0);
        }
    }

    int step(int mark, int step, int k) {
        if (!isMark(mark) || !in(step, 0, 4) || !day(k)) {
            return BAD;
        }
        View view = new View(k, NONE);
        return view.counts(mark) ? view.step(mark, step) : NONE;
    }

    int outcome(int student, int course, int k, int what) {
        if (!isStudent(student) || !isCourse(course) || !day(k) || !in(what, 0, 2)) {
            return BAD;
        }
        View view = new View(k, NONE);
        return what == 0 ? view.finalOf(student, course)
            : what == 1 ? view.marks(student, course).size() : view.excused(student, course);
    }

    private boolean asked(int student, int day, int k) {
        return isStudent(student) && day(day) && day(k);
    }

    int passed(int student, int day, int k) {
        return asked(student, day, k) ? new View(k, NONE).passed(student, day) : BAD;
    }

    int grade(int student, int day, int k) {
        return asked(student, day, k) ? new View(k, NONE).grade(student, day, 0) : BAD;
    }

    long number(int student, int day, int k, int what) {
        if (!asked(student, day, k) || !in(what, 0, 15)) {
            return BAD;
        }
        Eval e = new Eval(new View(k, NONE), student, NONE, day, 0);
        return what == 0 ? e.mean() : what == 15 ? e.credit() : e.best(what);
    }

    int edge(int student, int day, int k) {
        if (!asked(student, day, k)) {
            return BAD;
        }
        int o = binds(student, day);
        View view = new View(k, NONE);
        int is = view.grade(student, day, 0);
        if (o == NONE) {
            return NONE;
        }
        Eval e = new Eval(view, student, NONE, day, 0);
        for (int d = 1; d <= 2000; d++) {
            e.more = d;
            long told = ordinances.get(o).classes.work(e);
            if (Math.max(0, Math.min(9, told)) != is) {
                return d;
            }
        }
        return NONE;
    }

    int roll(int student, int day, int k) {
        return asked(student, day, k) ? new View(k, NONE).roll(student, day) : BAD;
    }

    int hangs(int meeting, int day, int k) {
        if (!in(meeting, 0, meetings.size() - 1) || !day(day) || !day(k)) {
            return BAD;
        }
        if (!stands(meeting, NONE)) {
            return NO;
        }
        View is = new View(k, NONE), would = new View(k, meeting);
        int set = 0;
        for (int s = 0; s < students.size(); s++) {
            if (is.passed(s, day) != would.passed(s, day) || is.grade(s, day, 0) != would.grade(s, day, 0)
                || is.roll(s, day) != would.roll(s, day)) {
                set |= 1 << s;
            }
        }
        return set;
    }

    // ---- texts, ordinances

    int write(int text, int character) {
        if (!in(text, 0, 7) || !in(character, 0, 127)) {
            return BAD;
        }
        if (texts[text].length() == 80) {
            return FULL;
        }
        texts[text] += (char) character;
        return texts[text].length();
    }

    int erase(int text) {
        if (!in(text, 0, 7)) {
            return BAD;
        }
        int length = texts[text].length();
        texts[text] = "";
        return length;
    }

    private static final class Fault extends RuntimeException {
        private static final long serialVersionUID = 1;
        final int number;

        Fault(int place, int why) {
            super("fault", null, false, false);
            number = 10 * place + why;
        }
    }

    static int faultOf(String text) {
        try {
            new Parser(text).parse();
            return NONE;
        } catch (Fault f) {
            return f.number;
        }
    }

    int fault(int text) {
        return in(text, 0, 7) ? faultOf(texts[text]) : BAD;
    }

    long tells(int text, int student, int course, int day, int k) {
        if (!in(text, 0, 7) || !in(course, NONE, courses.size() - 1) || !asked(student, day, k)) {
            return -2000000000000000000L;
        }
        if (fault(text) != NONE) {
            return -3000000000000000000L;
        }
        return new Parser(texts[text]).parse().work(new Eval(new View(k, NONE), student, course, day, 0));
    }

    int ordain(int passes, int classes, int from, boolean all) {
        if (!in(passes, 0, 7) || !in(classes, 0, 7) || !day(from)) {
            return BAD;
        }
        if (fault(passes) != NONE || fault(classes) != NONE) {
            return NO;
        }
        if (ordinances.size() == 10) {
            return FULL;
        }
        Ordinance o = new Ordinance();
        o.passes = new Parser(texts[passes]).parse();
        o.classes = new Parser(texts[classes]).parse();
        o.from = from;
        o.all = all;
        ordinances.add(o);
        return ordinances.size() - 1;
    }

    int choose(int student, int ordinance) {
        if (!isStudent(student) || !in(ordinance, NONE, ordinances.size() - 1)) {
            return -10;
        }
        int[] row = students.get(student).clone();
        int had = row[1];
        row[1] = ordinance;
        students.set(student, row);
        return had;
    }

    int binds(int student, int day) {
        if (!isStudent(student) || !day(day)) {
            return BAD;
        }
        int[] best = {NONE, NONE};
        for (int o = 0; o < ordinances.size(); o++) {
            Ordinance one = ordinances.get(o);
            if (one.all && one.from <= day && (best[0] == NONE || one.from >= ordinances.get(best[0]).from)) {
                best[0] = o;
            }
            if (one.from <= students.get(student)[0] && (best[1] == NONE || one.from >= ordinances.get(best[1]).from)) {
                best[1] = o;
            }
        }
        return best[0] != NONE ? best[0] : students.get(student)[1] != NONE ? students.get(student)[1] : best[1];
    }

    /** What a text asks of a student in a course, or alone. */
    private final class Eval {
        final View view;
        final int student, course, day;
        int more;
        private Integer set;

        Eval(View view, int student, int course, int day, int more) {
            this.view = view;
            this.student = student;
            this.course = course;
            this.day = day;
            this.more = more;
        }

        private int set() {
            if (set == null) {
                set = view.passed(student, day);
            }
            return set;
        }

        boolean leans() {
            for (int c = 0; c < courses.size(); c++) {
                if ((courses.get(course)[1] >> c & 1) == 1 && !view.passes(student, c, day)) {
                    return false;
                }
            }
            return true;
        }

        long credit() {
            long together = 0;
            for (int c = 0; c < courses.size(); c++) {
                together += (set() >> c & 1) * courses.get(c)[0];
            }
            return together;
        }

        long mean() {
            long together = 0;
            for (int c = 0; c < courses.size(); c++) {
                together += (set() >> c & 1) * courses.get(c)[0] * Math.max(0, view.finalOf(student, c));
            }
            return credit() == 0 ? 0 : together * 100 / credit();
        }

        long best(long n) {
            List<Integer> finals = new ArrayList<>();
            for (int c = 0; c < courses.size(); c++) {
                if ((set() >> c & 1) == 1) {
                    finals.add(Math.max(0, view.finalOf(student, c)));
                }
            }
            if (n < 1 || n > 14 || n > finals.size()) {
                return 0;
            }
            finals.sort(Collections.reverseOrder());
            return finals.subList(0, (int) n).stream().mapToLong(i -> i).sum() * 100 / n;
        }

        long name(String name) {
            boolean alone = course == NONE;
            switch (name) {
                case "mark": return alone ? NONE : view.finalOf(student, course);
                case "tries": return alone ? 0 : view.marks(student, course).size();
                case "excused": return alone ? 0 : view.excused(student, course);
                case "leans": return alone || !leans() ? 0 : 1;
                case "course": return alone ? 0 : course;
                case "credit": return alone ? credit() : 0;
                case "passed": return alone ? Integer.bitCount(set()) : 0;
                case "mean": return alone ? mean() + more : 0;
                default: throw new IllegalStateException(name);
            }
        }
    }

    private interface Node {
        long work(Eval e);
    }

    private static long truth(boolean is) {
        return is ? 1 : 0;
    }

    private static final class Parser {
        private static final List<String> NAMES =
            Arrays.asList("mark", "tries", "excused", "leans", "course", "credit", "mean", "passed");
        private static final List<String> OTHERS = Arrays.asList("unless", "if", "else", "or", "and", "not", "best");
        private final String text;
        private int at, start, open;
        private String token;

        Parser(String text) {
            this.text = text;
        }

        Node parse() {
            next();
            Node value = value();
            if (!token.isEmpty()) {
                throw new Fault(start, 1);
            }
            return value;
        }

        private void next() {
            while (at < text.length() && text.charAt(at) == 32) {
                at++;
            }
            start = at;
            String rest = text.substring(at);
            String run = rest.replaceFirst("(?s)^([0-9]+|[a-z]+|.|).*$", "$1");
            at += run.length();
            token = run;
            if (run.matches("[a-z]+") && !NAMES.contains(run) && !OTHERS.contains(run)) {
                throw new Fault(start, 4);
            }
        }

        private boolean take(String what) {
            if (!token.equals(what)) {
                return false;
            }
            next();
            return true;
        }

        private void need(String what) {
            if (!take(what)) {
                throw new Fault(start, 1);
            }
        }

        private Node value() {
            Node one = cases();
            while (take("unless")) {
                Node a = one, b = cases();
                one = e -> {
                    long first = a.work(e);
                    return b.work(e) != 0 ? 0 : first;
                };
            }
            return one;
        }

        private Node cases() {
            Node then = either();
            if (!take("if")) {
                return then;
            }
            Node when = either();
            need("else");
            Node otherwise = cases();
            return e -> when.work(e) != 0 ? then.work(e) : otherwise.work(e);
        }

        private Node either() {
            Node one = both();
            while (take("or")) {
                Node a = one, b = both();
                one = e -> truth(a.work(e) != 0 | b.work(e) != 0);
            }
            return one;
        }

        private Node both() {
            Node one = held();
            while (take("and")) {
                Node a = one, b = held();
                one = e -> truth(a.work(e) != 0 & b.work(e) != 0);
            }
            return one;
        }

        private Node held() {
            Node a = sum();
            if (take("<")) {
                Node b = sum();
                return e -> truth(a.work(e) < b.work(e));
            }
            if (take(">")) {
                Node b = sum();
                return e -> truth(a.work(e) > b.work(e));
            }
            if (take("=")) {
                Node b = sum();
                return e -> truth(a.work(e) == b.work(e));
            }
            return a;
        }

        private Node sum() {
            Node one = term();
            while (token.equals("+") || token.equals("-")) {
                boolean plus = token.equals("+");
                next();
                Node a = one, b = term();
                one = e -> plus ? a.work(e) + b.work(e) : a.work(e) - b.work(e);
            }
            return one;
        }

        private Node term() {
            Node one = unit();
            while (token.equals("*") || token.equals("/")) {
                boolean times = token.equals("*");
                next();
                Node a = one, b = unit();
                one = e -> {
                    long x = a.work(e), y = b.work(e);
                    return times ? x * y : y == 0 ? 0 : x / y;
                };
            }
            return one;
        }

        private Node unit() {
            if (token.matches("[0-9]{7,}")) {
                throw new Fault(start, 2);
            }
            if (token.matches("[0-9]+")) {
                long v = Long.parseLong(token);
                next();
                return e -> v;
            }
            if (NAMES.contains(token)) {
                String name = token;
                next();
                return e -> e.name(name);
            }
            if (token.equals("(")) {
                if (open == 8) {
                    throw new Fault(start, 3);
                }
                open++;
                next();
                Node inside = value();
                need(")");
                open--;
                return inside;
            }
            if (take("not")) {
                Node of = unit();
                return e -> truth(of.work(e) == 0);
            }
            if (take("-")) {
                Node of = unit();
                return e -> -of.work(e);
            }
            if (take("best")) {
                Node of = unit();
                return e -> {
                    long n = of.work(e);
                    return e.course == NONE ? e.best(n) + e.more : 0;
                };
            }
            throw new Fault(start, 1);
        }
    }

    // ---- ways, papers, habits, lists

    /** Tries all sets in all terms, the fullest or not. */
    private final class Way {
        final int n;
        final Map<Integer, Integer> fewest = new HashMap<>();

        Way(int n) {
            this.n = n;
        }

        boolean may(int set, int left, int term) {
            if (Integer.bitCount(set) > n) {
                return false;
            }
            for (int c = 0; c < courses.size(); c++) {
                if ((set >> c & 1) == 1 && ((courses.get(c)[1] & left) != 0 || (courses.get(c)[2] >> term & 1) == 0)) {
                    return false;
                }
            }
            return true;
        }

        int terms(int left, int term, int waited) {
            if (left == 0) {
                return 0;
            }
            if (waited == 3) {
                return 1000;
            }
            Integer known = fewest.get(left * 16 + term * 4 + waited);
            if (known != null) {
                return known;
            }
            int best = 1000;
            for (int set = left; set >= 0; set = set == 0 ? -1 : set - 1 & left) {
                if (may(set, left, term)) {
                    best = Math.min(best, 1 + terms(left & ~set, (term + 1) % 3, set == 0 ? waited + 1 : 0));
                }
            }
            fewest.put(left * 16 + term * 4 + waited, best);
            return best;
        }
    }

    private int leftOf(int courses, int passed) {
        int left = courses & ~passed, was;
        do {
            was = left;
            for (int c = 0; c < this.courses.size(); c++) {
                left |= (was >> c & 1) == 1 ? this.courses.get(c)[1] & ~passed : 0;
            }
        } while (left != was);
        return left;
    }

    private boolean asksWay(int student, int courses, int term, int n, int day, int k) {
        return asked(student, day, k) && in(courses, 0, (1 << this.courses.size()) - 1) && in(term, 0, 2) && in(n, 1, 4);
    }

    int way(int student, int courses, int term, int n, int day, int k) {
        if (!asksWay(student, courses, term, n, day, k)) {
            return BAD;
        }
        int terms = new Way(n).terms(leftOf(courses, new View(k, NONE).passed(student, day)), term, 0);
        return terms > 60 ? NONE : terms;
    }

    int wayAt(int student, int courses, int term, int n, int day, int k, int i) {
        if (!asksWay(student, courses, term, n, day, k) || i < 0) {
            return BAD;
        }
        Way way = new Way(n);
        int left = leftOf(courses, new View(k, NONE).passed(student, day));
        int terms = way.terms(left, term, 0);
        if (terms > 60 || i >= terms) {
            return NONE;
        }
        for (int at = 0;; at++) {
            int set = left;
            while (!way.may(set, left, (term + at) % 3)
                || way.terms(left & ~set, (term + at + 1) % 3, 0) > terms - at - 1) {
                set = set - 1 & left;
            }
            if (at == i) {
                return set;
            }
            left &= ~set;
        }
    }

    int sits(int student, int course, boolean is) {
        if (!isStudent(student) || !isCourse(course)) {
            return BAD;
        }
        int[] row = students.get(student).clone();
        if ((row[2] >> course & 1) == (is ? 1 : 0)) {
            return NO;
        }
        row[2] += is ? 1 << course : -(1 << course);
        students.set(student, row);
        return 1;
    }

    /** The first row of hours that holds, with so many hours; all rows are tried. */
    private boolean put(int[] row, int at, int hours, List<Integer> papers, int seats) {
        if (at == row.length) {
            return true;
        }
        for (int hour = 0; hour < hours; hour++) {
            row[at] = hour;
            boolean holds = true;
            int sat = 0;
            for (int[] student : students) {
                int sits = 0;
                for (int p = 0; p <= at; p++) {
                    sits += row[p] == hour ? student[2] >> papers.get(p) & 1 : 0;
                }
                holds &= sits < 2;
                sat += sits;
            }
            if (holds && sat <= seats && put(row, at + 1, hours, papers, seats)) {
                return true;
            }
        }
        return false;
    }

    private int[] rowOf(int papers, int seats) {
        List<Integer> list = new ArrayList<>();
        for (int c = 0; c < courses.size(); c++) {
            if ((papers >> c & 1) == 1) {
                list.add(c);
            }
        }
        int[] row = new int[list.size()];
        for (int hours = 0; hours <= list.size(); hours++) {
            if (put(row, 0, hours, list, seats)) {
                return row;
            }
        }
        return null;
    }

    int hours(int papers, int seats) {
        if (!in(papers, 0, (1 << courses.size()) - 1) || !in(seats, 1, 200)) {
            return BAD;
        }
        if (Integer.bitCount(papers) > 9) {
            return NO;
        }
        int[] row = rowOf(papers, seats);
        return row == null ? NONE : Arrays.stream(row).max().orElse(-1) + 1;
    }

    int hourOf(int papers, int seats, int course) {
        if (!isCourse(course) || (papers >> course & 1) == 0) {
            return BAD;
        }
        int hours = hours(papers, seats);
        return hours < 0 ? hours : rowOf(papers, seats)[Integer.bitCount(papers & (1 << course) - 1)];
    }

    private List<int[]> pairs(int examiner, int k) {
        View view = new View(k, NONE);
        List<int[]> pairs = new ArrayList<>();
        for (int a = 0; a < acts.size(); a++) {
            Act act = acts.get(a);
            if (act.sort == 0 && act.examiner == examiner && view.counts(a) && view.last(1, a) != null) {
                pairs.add(new int[] {act.v, view.last(1, a).v});
            }
            if (act.sort == 1 && act.examiner == examiner && view.counts(a)) {
                pairs.add(new int[] {act.v, acts.get(act.of).v});
            }
        }
        return pairs;
    }

    int habit(int examiner, int k, int what) {
        if (!in(examiner, 0, 4) || !day(k) || !in(what, 0, 3)) {
            return -1000;
        }
        List<int[]> pairs = pairs(examiner, k);
        int n = (int) pairs.stream().filter(p -> p[0] != p[1]).count();
        int p = (int) pairs.stream().filter(q -> q[0] > q[1]).count();
        if (what < 2) {
            return what == 0 ? n : p;
        }
        if (what == 2) {
            return pairs.isEmpty() ? 0 : pairs.stream().mapToInt(q -> q[0] - q[1]).sum() / pairs.size();
        }
        int with = 0;
        for (int e = 0; e < 5; e++) {
            with += pairs(e, k).stream().anyMatch(q -> q[0] != q[1]) ? 1 : 0;
        }
        BigInteger chance = ways(n, p).min(ways(n, n - p));
        BigInteger all = BigInteger.ONE.shiftLeft(n);
        return chance.multiply(BigInteger.valueOf(2L * with * odds)).compareTo(all) <= 0 ? 1 : 0;
    }

    /** In how many ways p or more of n come. */
    static BigInteger ways(int n, int p) {
        BigInteger[] row = {BigInteger.ONE};
        for (int i = 0; i < n; i++) {
            BigInteger[] next = new BigInteger[i + 2];
            for (int j = 0; j < next.length; j++) {
                next[j] = (j < row.length ? row[j] : BigInteger.ZERO).add(j > 0 ? row[j - 1] : BigInteger.ZERO);
            }
            row = next;
        }
        return Arrays.stream(row).skip(p).reduce(BigInteger.ZERO, BigInteger::add);
    }

    int odds(int v) {
        int were = odds;
        if (!in(v, 1, 10000)) {
            return BAD;
        }
        odds = v;
        return were;
    }

    int line(int first, int second) {
        if (!in(first, 0, 1000) || !in(second, 0, 1000)) {
            return BAD;
        }
        return add(lines, 12, first, second) == FULL ? FULL : lines.size();
    }

    int clear() {
        int were = lines.size();
        lines.clear();
        return were;
    }

    int doubt(int sum, int what) {
        if (!in(sum, 0, 12000) || !in(what, 0, 1)) {
            return BAD;
        }
        List<Integer> sets = new ArrayList<>();
        for (int set = 0; set < 1 << lines.size(); set++) {
            int together = 0;
            for (int i = 0; i < lines.size(); i++) {
                together += lines.get(i)[set >> i & 1];
            }
            if (together == sum) {
                sets.add(set);
            }
        }
        sets.sort(Comparator.comparing((Integer s) -> Integer.bitCount(s)).thenComparing(s -> s));
        if (sets.isEmpty()) {
            return NONE;
        }
        int few = Integer.bitCount(sets.get(0));
        return what == 0 ? sets.get(0) : (int) sets.stream().filter(s -> Integer.bitCount(s) == few).count() - 1;
    }

    // ---- images

    private void takeOver(Model other) {
        courses = new ArrayList<>(other.courses);
        students = new ArrayList<>(other.students);
        boards = new ArrayList<>(other.boards);
        meetings = new ArrayList<>(other.meetings);
        lines = new ArrayList<>(other.lines);
        acts = new ArrayList<>(other.acts);
        ordinances = new ArrayList<>(other.ordinances);
        texts = other.texts.clone();
        appealDays = other.appealDays;
        odds = other.odds;
    }

    int image(int i) {
        if (!in(i, 0, 1)) {
            return BAD;
        }
        images[i] = new Model();
        images[i].takeOver(this);
        return 1;
    }

    int from(int i) {
        if (!in(i, 0, 1)) {
            return BAD;
        }
        if (images[i] == null) {
            return NO;
        }
        takeOver(images[i]);
        return 1;
    }

    int count(int what) {
        int standing = 0;
        for (int m = 0; m < meetings.size(); m++) {
            standing += stands(m);
        }
        int[] counts = {courses.size(), students.size(), boards.size(), meetings.size(), acts.size(), ordinances.size(),
            lines.size(), standing};
        return in(what, 0, 7) ? counts[what] : BAD;
    }

    long digest() {
        List<Integer> all = new ArrayList<>();
        for (int what = 0; what < 8; what++) {
            all.add(count(what));
        }
        for (List<int[]> rows : List.of(courses, students, meetings)) {
            for (int[] row : rows) {
                for (int v : row) {
                    all.add(v);
                }
            }
        }
        for (int a = 0; a < acts.size(); a++) {
            for (int what = 0; what < 8; what++) {
                all.add(about(a, what));
            }
        }
        for (String text : texts) {
            all.add(text.length());
            text.chars().forEach(all::add);
        }
        all.add(appealDays);
        all.add(odds);
        long h = 283;
        for (int v : all) {
            h = 31 * h + v;
        }
        return h;
    }
}
