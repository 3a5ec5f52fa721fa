import java.util.Arrays;

/** The senate of a university. DOC.md tells what every call does; README.md tells how this file is laid out. */
public final class SenateRoll {
    public static final int NONE = -1, BAD = -2, NO = -3, FULL = -4;

    private static final long TELLS_BAD = -2000000000000000000L, TELLS_NO = -3000000000000000000L;
    private static final int CHOOSE_BAD = -10, HABIT_BAD = -1000;
    private static final int COURSES = 14, STUDENTS = 20, BOARDS = 4, MEETINGS = 40, ACTS = 250;
    private static final int TEXTS = 8, LETTERS = 80, ORDINANCES = 10, LINES = 12, IMAGES = 2;
    private static final int EXAMINERS = 5, SEAT_BITS = 1023, LAST_DAY = 9999, LAST_SIGN = 127;
    private static final int TERMS_A_YEAR = 3, PAPERS = 9, GREATEST_SUM = 12000;

    private final House house = new House();
    private final House firstImage = new House();
    private final House otherImage = new House();
    private int imagesKept;
    private final Known known = new Known(house);
    private final Reader reader = new Reader(house.texts);
    private final Machine machine = new Machine();
    private final Judge judge = new Judge(house, known, machine);
    private final Ways ways = new Ways(house);
    private final Papers papers = new Papers(house);
    private final Habits habits = new Habits(house, known);
    private final Doubts doubts = new Doubts();

    public SenateRoll() {
    }

    // ---- courses, students, boards

    public int course(int credit, int leans, int terms, int cap) {
        if (!within(credit, 1, 60) || !within(leans, 0, allCourses())) {
            return BAD;
        }
        if (!within(terms, 1, 7) || !within(cap, 0, 100)) {
            return BAD;
        }
        int course = house.courses.open();
        house.courses.set(course, House.CREDIT, credit);
        house.courses.set(course, House.LEANS, leans);
        house.courses.set(course, House.TERMS, terms);
        house.courses.set(course, House.CAP, cap);
        return course;
    }

    public int student(int began) {
        if (!isDay(began)) {
            return BAD;
        }
        int student = house.students.open();
        house.students.set(student, House.BEGAN, began);
        house.students.set(student, House.CHOSEN, NONE);
        house.students.set(student, House.SITTING, 0);
        return student;
    }

    public int board(int seats, int quorum) {
        if (!within(seats, 1, SEAT_BITS) || !within(quorum, 1, 10)) {
            return BAD;
        }
        int board = house.boards.open();
        house.boards.set(board, House.SEATS, seats);
        house.boards.set(board, House.QUORUM, quorum);
        return board;
    }

    public int meeting(int board, int day, int called, int sat) {
        if (!house.boards.has(board) || !isDay(day)) {
            return BAD;
        }
        if (!within(called, 0, SEAT_BITS) || !within(sat, 0, SEAT_BITS)) {
            return BAD;
        }
        int meeting = house.meetings.open();
        house.meetings.set(meeting, House.BOARD, board);
        house.meetings.set(meeting, House.MET, day);
        house.meetings.set(meeting, House.CALLED, called);
        house.meetings.set(meeting, House.SAT, sat);
        house.meetings.set(meeting, House.VOID, 0);
        return meeting;
    }

    public int tear(int meeting, boolean is) {
        if (!house.meetings.has(meeting)) {
            return BAD;
        }
        int now = is ? 1 : 0;
        if (house.meetings.get(meeting, House.VOID) == now) {
            return NO;
        }
        house.meetings.set(meeting, House.VOID, now);
        return 1;
    }

    public int stands(int meeting) {
        if (!house.meetings.has(meeting)) {
            return BAD;
        }
        return house.isStanding(meeting) ? 1 : 0;
    }

    // ---- acts

    public int mark(int student, int course, int v, int examiner, int day, int known) {
        if (!isStudent(student) || !isCourse(course) || !isMark(v) || !isExaminer(examiner)) {
            return BAD;
        }
        if (!isDay(day) || !within(known, day, LAST_DAY)) {
            return BAD;
        }
        int act = house.enter(House.MARK, day, known, NONE);
        house.acts.set(act, House.STUDENT, student);
        house.acts.set(act, House.COURSE, course);
        house.acts.set(act, House.VALUE, v);
        house.acts.set(act, House.EXAMINER, examiner);
        return act;
    }

    public int second(int mark, int v, int examiner, int day, int known) {
        if (!house.isA(House.MARK, mark) || !isMark(v) || !isExaminer(examiner)) {
            return BAD;
        }
        if (examiner == house.acts.get(mark, House.EXAMINER)) {
            return BAD;
        }
        if (!within(day, house.acts.get(mark, House.DAY), LAST_DAY) || !within(known, day, LAST_DAY)) {
            return BAD;
        }
        int act = house.enter(House.SECOND, day, known, NONE);
        house.acts.set(act, House.OF, mark);
        house.acts.set(act, House.VALUE, v);
        house.acts.set(act, House.EXAMINER, examiner);
        return act;
    }

    public int moderate(int mark, int v, int meeting, int known) {
        if (!house.isA(House.MARK, mark) || !isMark(v) || !isKnownAfter(meeting, known)) {
            return BAD;
        }
        int act = enterBy(House.MODERATED, meeting, known);
        house.acts.set(act, House.OF, mark);
        house.acts.set(act, House.VALUE, v);
        return act;
    }

    public int scale(int course, int times, int by, int and, int meeting, int known) {
        if (!isCourse(course) || !within(times, 1, 200) || !within(by, 1, 200)) {
            return BAD;
        }
        if (!within(and, -50, 50) || !isKnownAfter(meeting, known)) {
            return BAD;
        }
        int act = enterBy(House.SCALED, meeting, known);
        house.acts.set(act, House.COURSE, course);
        house.acts.set(act, House.TIMES, times);
        house.acts.set(act, House.BY, by);
        house.acts.set(act, House.AND, and);
        return act;
    }

    public int excuse(int student, int course, int meeting, int known) {
        if (!isStudent(student) || !isCourse(course) || !isKnownAfter(meeting, known)) {
            return BAD;
        }
        int act = enterBy(House.EXCUSED, meeting, known);
        house.acts.set(act, House.STUDENT, student);
        house.acts.set(act, House.COURSE, course);
        return act;
    }

    public int strike(int act, int meeting, int known) {
        if (!house.acts.has(act) || !isKnownAfter(meeting, known)) {
            return BAD;
        }
        int strike = enterBy(House.STRIKE, meeting, known);
        house.acts.set(strike, House.OF, act);
        return strike;
    }

    public int degree(int student, int meeting, int known) {
        if (!isStudent(student) || !isKnownAfter(meeting, known)) {
            return BAD;
        }
        int act = enterBy(House.DEGREE, meeting, known);
        house.acts.set(act, House.STUDENT, student);
        return act;
    }

    public int appeal(int act, int day) {
        if (!house.acts.has(act) || !isDay(day)) {
            return BAD;
        }
        int from = house.acts.get(act, House.DAY);
        if (house.acts.get(act, House.MEETING) == NONE || !within(day, from, from + house.appealDays)) {
            return NO;
        }
        int strike = house.enter(House.STRIKE, day, day, NONE);
        house.acts.set(strike, House.OF, act);
        return strike;
    }

    public int days(int n) {
        if (!within(n, 0, 1000)) {
            return BAD;
        }
        int were = house.appealDays;
        house.appealDays = n;
        return were;
    }

    public int about(int act, int what) {
        return house.acts.has(act) && within(what, 0, 7) ? house.acts.get(act, what) : BAD;
    }

    public int counts(int act, int k) {
        if (!house.acts.has(act) || !isDay(k)) {
            return BAD;
        }
        known.learn(k, NONE);
        return known.holds(act) ? 1 : 0;
    }

    // ---- marks, passes, classes

    public int step(int mark, int step, int k) {
        if (!house.isA(House.MARK, mark) || !within(step, 0, 4) || !isDay(k)) {
            return BAD;
        }
        known.learn(k, NONE);
        return known.holds(mark) ? known.stepOf(mark, step) : NONE;
    }

    public int outcome(int student, int course, int k, int what) {
        if (!isStudent(student) || !isCourse(course) || !isDay(k) || !within(what, 0, 2)) {
            return BAD;
        }
        known.learn(k, NONE);
        if (what == 0) {
            return known.finalOf(student, course);
        }
        return what == 1 ? known.triesOf(student, course) : known.excusedOf(student, course);
    }

    public int passed(int student, int day, int k) {
        if (!isStudent(student) || !isDay(day) || !isDay(k)) {
            return BAD;
        }
        known.learn(k, NONE);
        return judge.passedOf(student, day);
    }

    public int grade(int student, int day, int k) {
        if (!isStudent(student) || !isDay(day) || !isDay(k)) {
            return BAD;
        }
        known.learn(k, NONE);
        return judge.classOf(student, day);
    }

    public long number(int student, int day, int k, int what) {
        if (!isStudent(student) || !isDay(day) || !isDay(k) || !within(what, 0, 15)) {
            return BAD;
        }
        known.learn(k, NONE);
        judge.setAlone(student, judge.passedOf(student, day));
        if (what == 0) {
            return machine.told(Reader.MEAN);
        }
        return what == 15 ? machine.told(Reader.CREDIT) : machine.bestOf(what);
    }

    public int edge(int student, int day, int k) {
        if (!isStudent(student) || !isDay(day) || !isDay(k)) {
            return BAD;
        }
        known.learn(k, NONE);
        return judge.edgeOf(student, day);
    }

    public int roll(int student, int day, int k) {
        if (!isStudent(student) || !isDay(day) || !isDay(k)) {
            return BAD;
        }
        known.learn(k, NONE);
        return judge.rollOf(student, day);
    }

    public int hangs(int meeting, int day, int k) {
        if (!house.meetings.has(meeting) || !isDay(day) || !isDay(k)) {
            return BAD;
        }
        return house.isStanding(meeting) ? judge.hangingOn(meeting, day, k) : NO;
    }

    // ---- texts, ordinances

    public int write(int text, int character) {
        if (!isText(text) || !within(character, 0, LAST_SIGN)) {
            return BAD;
        }
        int length = house.texts.get(text, House.LENGTH);
        if (length >= LETTERS) {
            return FULL;
        }
        house.texts.set(text, House.FIRST_LETTER + length, character);
        house.texts.set(text, House.LENGTH, length + 1);
        return length + 1;
    }

    public int erase(int text) {
        if (!isText(text)) {
            return BAD;
        }
        int length = house.texts.get(text, House.LENGTH);
        house.texts.set(text, House.LENGTH, 0);
        return length;
    }

    public int fault(int text) {
        return isText(text) ? reader.read(text) : BAD;
    }

    public long tells(int text, int student, int course, int day, int k) {
        if (!isText(text) || !isStudent(student) || !within(course, NONE, house.courses.size() - 1)) {
            return TELLS_BAD;
        }
        if (!isDay(day) || !isDay(k)) {
            return TELLS_BAD;
        }
        if (reader.read(text) != NONE) {
            return TELLS_NO;
        }
        known.learn(k, NONE);
        int passed = judge.passedOf(student, day);
        if (course == NONE) {
            judge.setAlone(student, passed);
        } else {
            judge.setInCourse(student, course, passed);
        }
        return machine.work(reader.code(), 0, 0, 0);
    }

    public int ordain(int passes, int classes, int from, boolean all) {
        if (!isText(passes) || !isText(classes) || !isDay(from)) {
            return BAD;
        }
        if (reader.read(passes) != NONE || reader.read(classes) != NONE) {
            return NO;
        }
        int ordinance = house.ordinances.open();
        house.ordinances.set(ordinance, House.FROM, from);
        house.ordinances.set(ordinance, House.ALL, all ? 1 : 0);
        reader.copyTo(house.ordinances, ordinance, House.CLASSES);
        reader.read(passes);
        reader.copyTo(house.ordinances, ordinance, House.PASSES);
        return ordinance;
    }

    public int choose(int student, int ordinance) {
        if (!isStudent(student) || !within(ordinance, NONE, house.ordinances.size() - 1)) {
            return CHOOSE_BAD;
        }
        int had = house.students.get(student, House.CHOSEN);
        house.students.set(student, House.CHOSEN, ordinance);
        return had;
    }

    public int binds(int student, int day) {
        return isStudent(student) && isDay(day) ? judge.bindingOf(student, day) : BAD;
    }

    // ---- ways, papers, habits, lists

    public int way(int student, int courses, int term, int n, int day, int k) {
        if (!isStudent(student) || !within(courses, 0, allCourses()) || !within(term, 0, TERMS_A_YEAR - 1)) {
            return BAD;
        }
        if (!within(n, 1, 4) || !isDay(day) || !isDay(k)) {
            return BAD;
        }
        known.learn(k, NONE);
        ways.lead(courses, judge.passedOf(student, day), n);
        return ways.termsFrom(term);
    }

    public int wayAt(int student, int courses, int term, int n, int day, int k, int i) {
        if (i < 0) {
            return BAD;
        }
        int terms = way(student, courses, term, n, day, k);
        return terms < 0 ? terms : ways.setAt(term, terms, i);
    }

    public int sits(int student, int course, boolean is) {
        if (!isStudent(student) || !isCourse(course)) {
            return BAD;
        }
        int sitting = house.students.get(student, House.SITTING);
        boolean was = ((sitting >> course) & 1) == 1;
        if (was == is) {
            return NO;
        }
        house.students.set(student, House.SITTING, sitting ^ (1 << course));
        return 1;
    }

    public int hours(int papers, int seats) {
        if (!within(papers, 0, allCourses()) || !within(seats, 1, 200)) {
            return BAD;
        }
        return Integer.bitCount(papers) > PAPERS ? NO : this.papers.setHours(papers, seats);
    }

    public int hourOf(int papers, int seats, int course) {
        if (!isCourse(course) || ((papers >> course) & 1) == 0) {
            return BAD;
        }
        int hours = hours(papers, seats);
        return hours < 0 ? hours : this.papers.hourAt(Integer.bitCount(papers & ((1 << course) - 1)));
    }

    public int habit(int examiner, int k, int what) {
        if (!isExaminer(examiner) || !isDay(k) || !within(what, 0, 3)) {
            return HABIT_BAD;
        }
        known.learn(k, NONE);
        if (what == 3) {
            return habits.isHard(examiner) ? 1 : 0;
        }
        habits.gather(examiner);
        if (what == 0) {
            return habits.differing();
        }
        return what == 1 ? habits.above() : habits.meanMore();
    }

    public int odds(int v) {
        if (!within(v, 1, 10000)) {
            return BAD;
        }
        int were = house.odds;
        house.odds = v;
        return were;
    }

    public int line(int first, int second) {
        if (!within(first, 0, 1000) || !within(second, 0, 1000)) {
            return BAD;
        }
        int line = house.lines.open();
        if (line == FULL) {
            return FULL;
        }
        house.lines.set(line, House.ONE_OFFICE, first);
        house.lines.set(line, House.OTHER_OFFICE, second);
        return line + 1;
    }

    public int clear() {
        int were = house.lines.size();
        house.lines.drop();
        return were;
    }

    public int doubt(int sum, int what) {
        if (!within(sum, 0, GREATEST_SUM) || !within(what, 0, 1)) {
            return BAD;
        }
        doubts.search(house.lines, sum);
        if (doubts.chosen() == NONE) {
            return NONE;
        }
        return what == 0 ? doubts.chosen() : doubts.rivals();
    }

    // ---- images

    public int image(int i) {
        if (!within(i, 0, IMAGES - 1)) {
            return BAD;
        }
        imageAt(i).takeOver(house);
        imagesKept |= 1 << i;
        return 1;
    }

    public int from(int i) {
        if (!within(i, 0, IMAGES - 1)) {
            return BAD;
        }
        if (((imagesKept >> i) & 1) == 0) {
            return NO;
        }
        house.takeOver(imageAt(i));
        return 1;
    }

    public int count(int what) {
        return within(what, 0, 7) ? house.howMany(what) : BAD;
    }

    public long digest() {
        return house.sumUp();
    }

    // ---- what the calls are told

    private static boolean within(int v, int least, int greatest) {
        return v >= least && v <= greatest;
    }

    private static boolean isDay(int day) {
        return within(day, 0, LAST_DAY);
    }

    private static boolean isMark(int v) {
        return within(v, 0, 100);
    }

    private static boolean isExaminer(int examiner) {
        return within(examiner, 0, EXAMINERS - 1);
    }

    private static boolean isText(int text) {
        return within(text, 0, TEXTS - 1);
    }

    private boolean isStudent(int student) {
        return house.students.has(student);
    }

    private boolean isCourse(int course) {
        return house.courses.has(course);
    }

    private House imageAt(int i) {
        return i == 0 ? firstImage : otherImage;
    }

    private int allCourses() {
        return (1 << house.courses.size()) - 1;
    }

    private boolean isKnownAfter(int meeting, int known) {
        return house.meetings.has(meeting) && within(known, house.meetings.get(meeting, House.MET), LAST_DAY);
    }

    private int enterBy(int sort, int meeting, int known) {
        return house.enter(sort, house.meetings.get(meeting, House.MET), known, meeting);
    }

    /** A table whose every place is tested: outside it nothing is written, and NONE is read. */
    private static final class Rows {
        private final int limit;
        private final int columns;
        private final int[] cells;
        private int used;

        Rows(int limit, int columns) {
            this.limit = Math.max(limit, 0);
            this.columns = Math.max(columns, 0);
            cells = new int[Math.max(limit, 0) * Math.max(columns, 0)];
        }

        int size() {
            return used;
        }

        boolean has(int row) {
            return row >= 0 && row < used;
        }

        /** A new row's number, or FULL; set takes no FULL row, so callers may go on with the answer. */
        int open() {
            if (used >= limit) {
                return FULL;
            }
            used++;
            return used - 1;
        }

        void drop() {
            used = 0;
        }

        void dropLast() {
            used = Math.max(0, used - 1);
        }

        int get(int row, int column) {
            if (row < 0 || row >= limit || column < 0 || column >= columns) {
                return NONE;
            }
            return cells[row * columns + column];
        }

        void set(int row, int column, int value) {
            if (row < 0 || row >= limit || column < 0 || column >= columns) {
                return;
            }
            cells[row * columns + column] = value;
        }

        void add(int row, int column, int more) {
            set(row, column, get(row, column) + more);
        }

        void fillColumn(int column, int value, int rows) {
            for (int row = 0; row < rows && row < limit; row++) {
                set(row, column, value);
            }
        }

        void takeOver(Rows other) {
            System.arraycopy(other.cells, 0, cells, 0, Math.min(other.cells.length, cells.length));
            used = Math.min(other.used, limit);
        }
    }

    /** All that is told: what an image keeps. */
    private static final class House {
        static final int CREDIT = 0, LEANS = 1, TERMS = 2, CAP = 3;
        static final int BEGAN = 0, CHOSEN = 1, SITTING = 2;
        static final int SEATS = 0, QUORUM = 1;
        static final int BOARD = 0, MET = 1, CALLED = 2, SAT = 3, VOID = 4;
        static final int MARK = 0, SECOND = 1, MODERATED = 2, SCALED = 3, EXCUSED = 4, STRIKE = 5, DEGREE = 6;
        // The first eight are in the order that promise 17 asks for.
        static final int SORT = 0, DAY = 1, KNOWN = 2, MEETING = 3, STUDENT = 4, COURSE = 5, OF = 6, VALUE = 7;
        static final int TOLD_OF_AN_ACT = 8;
        static final int EXAMINER = 8, TIMES = 8, BY = 9, AND = 10, ACT_COLUMNS = 11;
        static final int LENGTH = 0, FIRST_LETTER = 1, TEXT_COLUMNS = LETTERS + 1;
        static final int FROM = 0, ALL = 1, PASSES = 2, CLASSES = PASSES + TEXT_COLUMNS;
        static final int ONE_OFFICE = 0, OTHER_OFFICE = 1;

        final Rows courses = new Rows(COURSES, 4);
        final Rows students = new Rows(STUDENTS, 3);
        final Rows boards = new Rows(BOARDS, 2);
        final Rows meetings = new Rows(MEETINGS, 5);
        final Rows acts = new Rows(ACTS, ACT_COLUMNS);
        final Rows texts = new Rows(TEXTS, TEXT_COLUMNS);
        final Rows ordinances = new Rows(ORDINANCES, CLASSES + TEXT_COLUMNS);
        final Rows lines = new Rows(LINES, 2);
        int appealDays = 30;
        int odds = 20;

        int enter(int sort, int day, int known, int meeting) {
            int act = acts.open();
            for (int column = 0; column < ACT_COLUMNS; column++) {
                acts.set(act, column, NONE);
            }
            acts.set(act, SORT, sort);
            acts.set(act, DAY, day);
            acts.set(act, KNOWN, known);
            acts.set(act, MEETING, meeting);
            return act;
        }

        boolean isA(int sort, int act) {
            return acts.has(act) && acts.get(act, SORT) == sort;
        }

        boolean isStanding(int meeting) {
            if (!meetings.has(meeting) || meetings.get(meeting, VOID) == 1) {
                return false;
            }
            int board = meetings.get(meeting, BOARD);
            int seats = boards.get(board, SEATS);
            boolean allCalled = (seats & meetings.get(meeting, CALLED)) == seats;
            return allCalled && Integer.bitCount(seats & meetings.get(meeting, SAT)) >= boards.get(board, QUORUM);
        }

        int howMany(int what) {
            switch (what) {
                case 0: return courses.size();
                case 1: return students.size();
                case 2: return boards.size();
                case 3: return meetings.size();
                case 4: return acts.size();
                case 5: return ordinances.size();
                case 6: return lines.size();
                default: return standing();
            }
        }

        private int standing() {
            int standing = 0;
            for (int meeting = 0; meeting < meetings.size(); meeting++) {
                if (isStanding(meeting)) {
                    standing++;
                }
            }
            return standing;
        }

        long sumUp() {
            long h = 283;
            for (int what = 0; what <= 7; what++) {
                h = 31 * h + howMany(what);
            }
            h = sumUpRows(h, courses, 4);
            h = sumUpRows(h, students, 3);
            h = sumUpRows(h, meetings, 5);
            h = sumUpRows(h, acts, TOLD_OF_AN_ACT);
            h = sumUpTexts(h);
            h = 31 * h + appealDays;
            return 31 * h + odds;
        }

        private static long sumUpRows(long before, Rows rows, int columns) {
            long h = before;
            for (int row = 0; row < rows.size(); row++) {
                for (int column = 0; column < columns; column++) {
                    h = 31 * h + rows.get(row, column);
                }
            }
            return h;
        }

        private long sumUpTexts(long before) {
            long h = before;
            for (int text = 0; text < TEXTS; text++) {
                int length = texts.get(text, LENGTH);
                h = 31 * h + length;
                for (int i = 0; i < length && i < LETTERS; i++) {
                    h = 31 * h + texts.get(text, FIRST_LETTER + i);
                }
            }
            return h;
        }

        void takeOver(House other) {
            courses.takeOver(other.courses);
            students.takeOver(other.students);
            boards.takeOver(other.boards);
            meetings.takeOver(other.meetings);
            acts.takeOver(other.acts);
            texts.takeOver(other.texts);
            ordinances.takeOver(other.ordinances);
            lines.takeOver(other.lines);
            appealDays = other.appealDays;
            odds = other.odds;
        }
    }

    /** Which acts count as known at a day, and the outcomes that come of them. */
    private static final class Known {
        private static final int HOLDS = 0, STRUCK = 1, SECOND = 2, MODERATED = 3;
        private static final int FINAL = 0, TRIES = 1, EXCUSED = 2, FIRST = 3;

        private final House house;
        private final Rows acts = new Rows(ACTS, 4);
        private final Rows outcomes = new Rows(STUDENTS * COURSES, 4);
        private final Rows scales = new Rows(ACTS, 1);

        Known(House house) {
            this.house = house;
        }

        /** Works out all that is known at k, as if the meeting voided (NONE: none) were void. */
        void learn(int k, int voided) {
            sift(k, voided);
            gather();
            for (int act = 0; act < house.acts.size(); act++) {
                if (house.isA(House.MARK, act) && holds(act)) {
                    int row = rowOf(act);
                    outcomes.set(row, FINAL, Math.max(outcomes.get(row, FINAL), stepOf(act, 4)));
                }
            }
        }

        boolean holds(int act) {
            return acts.get(act, HOLDS) == 1;
        }

        int secondOf(int mark) {
            return acts.get(mark, SECOND);
        }

        int finalOf(int student, int course) {
            return outcomes.get(student * COURSES + course, FINAL);
        }

        int triesOf(int student, int course) {
            return outcomes.get(student * COURSES + course, TRIES);
        }

        int excusedOf(int student, int course) {
            return outcomes.get(student * COURSES + course, EXCUSED);
        }

        int stepOf(int mark, int step) {
            int v = house.acts.get(mark, House.VALUE);
            if (step >= 1 && acts.get(mark, SECOND) != NONE) {
                v = bothOf(v, house.acts.get(acts.get(mark, SECOND), House.VALUE));
            }
            if (step >= 2 && acts.get(mark, MODERATED) != NONE) {
                v = house.acts.get(acts.get(mark, MODERATED), House.VALUE);
            }
            if (step >= 3) {
                v = scaledOf(mark, v);
            }
            if (step >= 4 && outcomes.get(rowOf(mark), FIRST) != mark) {
                v = Math.min(v, house.courses.get(house.acts.get(mark, House.COURSE), House.CAP));
            }
            return v;
        }

        /** From the last act back: a strike has a greater number than what it strikes, so it is settled first. */
        private void sift(int k, int voided) {
            acts.fillColumn(STRUCK, NONE, house.acts.size());
            for (int act = house.acts.size() - 1; act >= 0; act--) {
                int meeting = house.acts.get(act, House.MEETING);
                boolean valid = meeting == NONE || (meeting != voided && house.isStanding(meeting));
                boolean holds = valid && house.acts.get(act, House.KNOWN) <= k && acts.get(act, STRUCK) == NONE;
                acts.set(act, HOLDS, holds ? 1 : 0);
                if (holds && house.acts.get(act, House.SORT) == House.STRIKE) {
                    acts.set(house.acts.get(act, House.OF), STRUCK, act);
                }
            }
        }

        private void gather() {
            int all = house.students.size() * COURSES;
            acts.fillColumn(SECOND, NONE, house.acts.size());
            acts.fillColumn(MODERATED, NONE, house.acts.size());
            outcomes.fillColumn(FINAL, NONE, all);
            outcomes.fillColumn(TRIES, 0, all);
            outcomes.fillColumn(EXCUSED, 0, all);
            outcomes.fillColumn(FIRST, NONE, all);
            scales.drop();
            for (int act = 0; act < house.acts.size(); act++) {
                if (holds(act)) {
                    gatherOne(act);
                }
            }
        }

        private void gatherOne(int act) {
            switch (house.acts.get(act, House.SORT)) {
                case House.MARK:
                    outcomes.add(rowOf(act), TRIES, 1);
                    bringFirst(act);
                    break;
                case House.SECOND:
                    acts.set(house.acts.get(act, House.OF), SECOND, act);
                    break;
                case House.MODERATED:
                    acts.set(house.acts.get(act, House.OF), MODERATED, act);
                    break;
                case House.SCALED:
                    scales.set(scales.open(), 0, act);
                    break;
                case House.EXCUSED:
                    outcomes.set(rowOf(act), EXCUSED, 1);
                    break;
                default:
                    break;
            }
        }

        private void bringFirst(int mark) {
            int row = rowOf(mark);
            int first = outcomes.get(row, FIRST);
            if (first == NONE || house.acts.get(mark, House.DAY) < house.acts.get(first, House.DAY)) {
                outcomes.set(row, FIRST, mark);
            }
        }

        private int rowOf(int act) {
            return house.acts.get(act, House.STUDENT) * COURSES + house.acts.get(act, House.COURSE);
        }

        private static int bothOf(int v, int other) {
            return Math.abs(v - other) <= 10 ? (v + other) / 2 : Math.min(v, other);
        }

        private int scaledOf(int mark, int v) {
            int course = house.acts.get(mark, House.COURSE);
            int day = house.acts.get(mark, House.DAY);
            for (int i = scales.size() - 1; i >= 0; i--) {
                int scale = scales.get(i, 0);
                int by = house.acts.get(scale, House.BY);
                boolean sameCourse = house.acts.get(scale, House.COURSE) == course;
                if (sameCourse && house.acts.get(scale, House.DAY) >= day && by > 0) {
                    int scaled = v * house.acts.get(scale, House.TIMES) / by + house.acts.get(scale, House.AND);
                    return Math.max(0, Math.min(100, scaled));
                }
            }
            return v;
        }
    }

    /** Makes a code of a text, read from left to right: numbers as they are, the rest as ~kind, operands first. */
    private static final class Reader {
        private static final String WORDS =
            "unless if else or and not best mark tries excused leans course credit mean passed ";
        private static final String SIGNS = "<>=+-*/()";
        // The kinds of words and signs are their places in WORDS and, behind these, in SIGNS.
        static final int UNLESS = 0, IF = 1, ELSE = 2, OR = 3, AND = 4, NOT = 5, BEST = 6;
        static final int MARK = 7, TRIES = 8, EXCUSED = 9, LEANS = 10, COURSE = 11, CREDIT = 12, MEAN = 13, PASSED = 14;
        static final int LESS = 15, GREATER = 16, EQUAL = 17, PLUS = 18, MINUS = 19, TIMES = 20, OVER = 21;
        static final int OPEN = 22, CLOSE = 23, NUMBER = 24, END = 25, NEGATIVE = 26;
        private static final int[] RANKS = {
            1, 0, 2, 3, 4, 8, 8, 0, 0, 0, 0, 0, 0, 0, 0, 5, 5, 5, 6, 6, 7, 7, 0, 0, 0, 0, 8
        };
        private static final int LOWEST_RANK = 1, EITHER_RANK = 3, COMPARING_RANK = 5;
        private static final int SUCH = 1, LONG_NUMBER = 2, DEEP = 3, NO_WORD = 4;
        private static final int DIGITS = 6, OPEN_AT_ONCE = 8;

        private final Rows code = new Rows(1, House.TEXT_COLUMNS);
        private final Rows waiting = new Rows(LETTERS, 1);
        private final Rows texts;
        private int text;
        private int length;
        private int start;
        private int end;
        private int kind;
        private int value;
        private int open;
        private int fault;
        private boolean unitIsDue;

        Reader(Rows texts) {
            this.texts = texts;
        }

        Rows code() {
            return code;
        }

        /** Makes the code of a text: its FAULT, or NONE. */
        int read(int row) {
            text = row;
            length = texts.get(row, House.LENGTH);
            end = 0;
            open = 0;
            fault = NONE;
            kind = NUMBER;
            unitIsDue = true;
            waiting.drop();
            code.set(0, House.LENGTH, 0);
            for (int token = 0; token <= LETTERS && fault == NONE && kind != END; token++) {
                nextToken();
                if (fault == NONE && unitIsDue) {
                    takeUnit();
                } else if (fault == NONE) {
                    takeBehindUnit();
                }
            }
            return fault;
        }

        void copyTo(Rows rows, int row, int column) {
            for (int i = 0; i < House.TEXT_COLUMNS; i++) {
                rows.set(row, column + i, code.get(0, i));
            }
        }

        private void takeUnit() {
            switch (kind) {
                case NUMBER:
                    takeNumber();
                    break;
                case MARK: case TRIES: case EXCUSED: case LEANS: case COURSE: case CREDIT: case MEAN: case PASSED:
                    emit(~kind);
                    unitIsDue = false;
                    break;
                case NOT: case BEST:
                    push(kind);
                    break;
                case MINUS:
                    push(NEGATIVE);
                    break;
                case OPEN:
                    openOne();
                    break;
                default:
                    fail(SUCH);
                    break;
            }
        }

        private void takeBehindUnit() {
            switch (kind) {
                case OR: case AND: case PLUS: case MINUS: case TIMES: case OVER:
                    emitDownTo(rankOf(kind));
                    pushOperator();
                    break;
                case LESS: case GREATER: case EQUAL:
                    emitDownTo(COMPARING_RANK + 1);
                    pushUnless(rankOf(last()) == COMPARING_RANK);
                    break;
                case IF:
                    emitDownTo(EITHER_RANK);
                    pushUnless(last() == IF);
                    break;
                case ELSE:
                    emitDownTo(EITHER_RANK);
                    turnIfToElse();
                    break;
                case UNLESS:
                    endCases();
                    pushUnless(fault != NONE);
                    break;
                case CLOSE:
                    endCases();
                    closeOne();
                    break;
                case END:
                    endCases();
                    failUnless(waiting.size() == 0);
                    break;
                default:
                    fail(SUCH);
                    break;
            }
        }

        /** Where no number can stand its first digit is such already, so only here its length matters. */
        private void takeNumber() {
            if (end - start > DIGITS) {
                fail(LONG_NUMBER);
                return;
            }
            emit(value);
            unitIsDue = false;
        }

        private void openOne() {
            if (open >= OPEN_AT_ONCE) {
                fail(DEEP);
                return;
            }
            open++;
            push(OPEN);
        }

        private void closeOne() {
            failUnless(last() == OPEN);
            if (fault == NONE) {
                open--;
                waiting.dropLast();
            }
        }

        private void turnIfToElse() {
            failUnless(last() == IF);
            waiting.set(waiting.size() - 1, 0, ELSE);
            unitIsDue = true;
        }

        /** Ends the row of cases that is open; an if that still waits for its else can not end. */
        private void endCases() {
            emitDownTo(EITHER_RANK);
            failUnless(last() != IF);
            emitDownTo(LOWEST_RANK);
        }

        private void emitDownTo(int rank) {
            for (int i = waiting.size(); i > 0 && rankOf(last()) >= rank; i--) {
                emit(~last());
                waiting.dropLast();
            }
        }

        private void pushUnless(boolean canNotStand) {
            failUnless(!canNotStand);
            pushOperator();
        }

        private void pushOperator() {
            push(kind);
            unitIsDue = true;
        }

        private void push(int waits) {
            waiting.set(waiting.open(), 0, waits);
        }

        private int last() {
            return waiting.get(waiting.size() - 1, 0);
        }

        private void emit(int one) {
            int codes = code.get(0, House.LENGTH);
            code.set(0, House.FIRST_LETTER + codes, one);
            code.set(0, House.LENGTH, codes + 1);
        }

        private static int rankOf(int kind) {
            return kind >= 0 && kind < RANKS.length ? RANKS[kind] : 0;
        }

        private void failUnless(boolean stands) {
            if (!stands) {
                fail(SUCH);
            }
        }

        private void fail(int why) {
            if (fault == NONE) {
                fault = 10 * start + why;
            }
        }

        private void nextToken() {
            start = end;
            while (start < length && letter(start) == ' ') {
                start++;
            }
            end = start;
            if (start >= length) {
                kind = END;
            } else if (isDigit(letter(start))) {
                nextNumber();
            } else if (isLetter(letter(start))) {
                nextWord();
            } else {
                end = start + 1;
                int sign = SIGNS.indexOf((char) letter(start));
                kind = LESS + sign;
                failUnless(sign >= 0);
            }
        }

        private void nextNumber() {
            kind = NUMBER;
            value = 0;
            while (end < length && isDigit(letter(end))) {
                value = 10 * value + letter(end) - '0';
                end++;
            }
        }

        private void nextWord() {
            while (end < length && isLetter(letter(end))) {
                end++;
            }
            kind = wordThere();
            if (kind == NONE) {
                fail(NO_WORD);
            }
        }

        private int wordThere() {
            int word = 0;
            int at = start;
            boolean alike = true;
            for (int i = 0; i < WORDS.length(); i++) {
                char c = WORDS.charAt(i);
                if (c == ' ') {
                    if (alike && at == end) {
                        return word;
                    }
                    word++;
                    at = start;
                    alike = true;
                } else {
                    alike = alike && at < end && letter(at) == c;
                    at++;
                }
            }
            return NONE;
        }

        private int letter(int at) {
            return texts.get(text, House.FIRST_LETTER + at);
        }

        private static boolean isDigit(int c) {
            return c >= '0' && c <= '9';
        }

        private static boolean isLetter(int c) {
            return c >= 'a' && c <= 'z';
        }
    }

    /** Works a code on what is told of one student, in a course or alone. */
    private static final class Machine {
        private final long[] stack = new long[LETTERS];
        private final long[] told = new long[Reader.LESS];
        private final int[] finals = new int[COURSES];
        private int ranked;
        private int top;
        private boolean usedMore;

        void forget() {
            Arrays.fill(told, 0L);
            ranked = 0;
        }

        void tell(int word, long v) {
            if (word >= 0 && word < told.length) {
                told[word] = v;
            }
        }

        long told(int word) {
            return word >= 0 && word < told.length ? told[word] : 0;
        }

        /** Puts a FINAL among those that best chooses from, the greatest first. */
        void rank(int mark) {
            int at = Math.min(ranked, finals.length - 1);
            while (at > 0 && finals[at - 1] < mark) {
                finals[at] = finals[at - 1];
                at--;
            }
            finals[at] = mark;
            ranked = Math.min(ranked + 1, finals.length);
        }

        long bestOf(long n) {
            if (n < 1 || n > ranked) {
                return 0;
            }
            long together = 0;
            for (int i = 0; i < n && i < finals.length; i++) {
                together += finals[i];
            }
            return together * 100 / n;
        }

        /** Whether the last work asked mean or best, so that a more added to these could change it. */
        boolean usedMore() {
            return usedMore;
        }

        /** What a code tells, if mean and best tell so much more. */
        long work(Rows rows, int row, int column, int more) {
            int codes = rows.get(row, column);
            top = 0;
            usedMore = false;
            for (int i = 1; i <= codes && i <= LETTERS; i++) {
                int one = rows.get(row, column + i);
                if (one >= 0) {
                    push(one);
                } else {
                    apply(~one, more);
                }
            }
            return pop();
        }

        private void apply(int kind, int more) {
            switch (kind) {
                case Reader.MARK: case Reader.TRIES: case Reader.EXCUSED: case Reader.LEANS:
                case Reader.COURSE: case Reader.CREDIT: case Reader.PASSED:
                    push(told(kind));
                    break;
                case Reader.MEAN:
                    usedMore = true;
                    push(told(kind) + more);
                    break;
                case Reader.BEST:
                    usedMore = true;
                    push(bestOf(pop()) + more);
                    break;
                case Reader.NOT:
                    push(pop() == 0 ? 1 : 0);
                    break;
                case Reader.NEGATIVE:
                    push(-pop());
                    break;
                case Reader.ELSE:
                    long otherwise = pop();
                    long when = pop();
                    long then = pop();
                    push(when != 0 ? then : otherwise);
                    break;
                default:
                    long other = pop();
                    push(ofTwo(kind, pop(), other));
                    break;
            }
        }

        private static long ofTwo(int kind, long one, long other) {
            switch (kind) {
                case Reader.UNLESS: return other != 0 ? 0 : one;
                case Reader.OR: return one != 0 || other != 0 ? 1 : 0;
                case Reader.AND: return one != 0 && other != 0 ? 1 : 0;
                case Reader.LESS: return one < other ? 1 : 0;
                case Reader.GREATER: return one > other ? 1 : 0;
                case Reader.EQUAL: return one == other ? 1 : 0;
                case Reader.PLUS: return one + other;
                case Reader.MINUS: return one - other;
                case Reader.TIMES: return one * other;
                case Reader.OVER: return other == 0 ? 0 : one / other;
                default: return 0;
            }
        }

        private void push(long v) {
            if (top >= 0 && top < stack.length) {
                stack[top] = v;
                top++;
            }
        }

        private long pop() {
            if (top < 1 || top > stack.length) {
                return 0;
            }
            top--;
            return stack[top];
        }
    }

    /** What a student has passed, and comes to, by the ordinance that binds it. */
    private static final class Judge {
        private static final int[] PLAIN_PASSES = {~Reader.MARK, 39, ~Reader.GREATER, ~Reader.LEANS, ~Reader.AND};
        private static final int[] PLAIN_CLASSES = {~Reader.CREDIT, 10, ~Reader.OVER};
        private static final int WIDEST_EDGE = 2000, GREATEST_CLASS = 9;
        private static final int PASSES = 0, CLASS = 1, ROLL = 2;

        private final House house;
        private final Known known;
        private final Machine machine;
        private final Rows plain = new Rows(1, House.CLASSES + House.TEXT_COLUMNS);
        private final Rows before = new Rows(STUDENTS, 3);

        Judge(House house, Known known, Machine machine) {
            this.house = house;
            this.known = known;
            this.machine = machine;
            putCode(House.PASSES, PLAIN_PASSES);
            putCode(House.CLASSES, PLAIN_CLASSES);
        }

        private void putCode(int column, int[] code) {
            plain.set(0, column, code.length);
            for (int i = 0; i < code.length; i++) {
                plain.set(0, column + 1 + i, code[i]);
            }
        }

        int bindingOf(int student, int day) {
            int forAll = latestOf(day, true);
            if (forAll != NONE) {
                return forAll;
            }
            int chosen = house.students.get(student, House.CHOSEN);
            return chosen != NONE ? chosen : latestOf(house.students.get(student, House.BEGAN), false);
        }

        private int latestOf(int day, boolean forAll) {
            int latest = NONE;
            int latestFrom = NONE;
            for (int ordinance = 0; ordinance < house.ordinances.size(); ordinance++) {
                int from = house.ordinances.get(ordinance, House.FROM);
                boolean meant = !forAll || house.ordinances.get(ordinance, House.ALL) == 1;
                if (meant && from <= day && from >= latestFrom) {
                    latest = ordinance;
                    latestFrom = from;
                }
            }
            return latest;
        }

        private Rows rowsOf(int ordinance) {
            return ordinance == NONE ? plain : house.ordinances;
        }

        /** From the least number on: a course leans on lesser ones alone. */
        int passedOf(int student, int day) {
            int ordinance = bindingOf(student, day);
            int passed = 0;
            for (int course = 0; course < house.courses.size(); course++) {
                setInCourse(student, course, passed);
                if (machine.work(rowsOf(ordinance), Math.max(ordinance, 0), House.PASSES, 0) != 0) {
                    passed |= 1 << course;
                }
            }
            return passed;
        }

        int classOf(int student, int day) {
            setAlone(student, passedOf(student, day));
            return classWith(bindingOf(student, day), 0);
        }

        private int classWith(int ordinance, int more) {
            long told = machine.work(rowsOf(ordinance), Math.max(ordinance, 0), House.CLASSES, more);
            return (int) Math.max(0L, Math.min((long) GREATEST_CLASS, told));
        }

        int edgeOf(int student, int day) {
            int is = classOf(student, day);
            int ordinance = bindingOf(student, day);
            if (!machine.usedMore()) {
                return NONE;
            }
            for (int more = 1; more <= WIDEST_EDGE; more++) {
                if (classWith(ordinance, more) != is) {
                    return more;
                }
            }
            return NONE;
        }

        int rollOf(int student, int day) {
            int on = NONE;
            for (int act = 0; act < house.acts.size(); act++) {
                int met = house.acts.get(act, House.DAY);
                boolean meant = house.isA(House.DEGREE, act) && house.acts.get(act, House.STUDENT) == student;
                if (meant && known.holds(act) && met <= day) {
                    on = Math.max(on, met);
                }
            }
            return on == NONE ? NONE : classOf(student, on);
        }

        int hangingOn(int meeting, int day, int k) {
            known.learn(k, NONE);
            for (int student = 0; student < house.students.size(); student++) {
                before.set(student, PASSES, passedOf(student, day));
                before.set(student, CLASS, classOf(student, day));
                before.set(student, ROLL, rollOf(student, day));
            }
            known.learn(k, meeting);
            int hanging = 0;
            for (int student = 0; student < house.students.size(); student++) {
                boolean alike = before.get(student, PASSES) == passedOf(student, day)
                    && before.get(student, CLASS) == classOf(student, day)
                    && before.get(student, ROLL) == rollOf(student, day);
                if (!alike) {
                    hanging |= 1 << student;
                }
            }
            return hanging;
        }

        void setInCourse(int student, int course, int passed) {
            int leans = house.courses.get(course, House.LEANS);
            machine.forget();
            machine.tell(Reader.MARK, known.finalOf(student, course));
            machine.tell(Reader.TRIES, known.triesOf(student, course));
            machine.tell(Reader.EXCUSED, known.excusedOf(student, course));
            machine.tell(Reader.LEANS, (leans & passed) == leans ? 1 : 0);
            machine.tell(Reader.COURSE, course);
        }

        void setAlone(int student, int passed) {
            long credits = 0;
            long weighed = 0;
            machine.forget();
            for (int course = 0; course < house.courses.size(); course++) {
                if (((passed >> course) & 1) == 1) {
                    int credit = house.courses.get(course, House.CREDIT);
                    int mark = Math.max(0, known.finalOf(student, course));
                    credits += credit;
                    weighed += (long) mark * credit;
                    machine.rank(mark);
                }
            }
            machine.tell(Reader.MARK, NONE);
            machine.tell(Reader.CREDIT, credits);
            machine.tell(Reader.MEAN, credits == 0 ? 0 : weighed * 100 / credits);
            machine.tell(Reader.PASSED, Integer.bitCount(passed));
        }
    }

    /** The ways to courses, term by term. */
    private static final class Ways {
        private static final int LAST_TERM = 60, NEVER = 63, BITS_A_TERM = 6;

        private final House house;
        // Of each set of courses that are left: the fewest terms from term 0, 1 and 2 on, six bits each; 0: not known.
        private final int[] fewest = new int[1 << COURSES];
        private final Rows early = new Rows(COURSES, 1);
        private final Rows waiting = new Rows(1 << TERMS_A_YEAR, 1);
        private int toTake;
        private int most;

        Ways(House house) {
            this.house = house;
        }

        void lead(int courses, int passed, int atMost) {
            toTake = courses & ~passed;
            most = atMost;
            for (int course = COURSES - 1; course >= 0; course--) {
                if (((toTake >> course) & 1) == 1) {
                    toTake |= house.courses.get(course, House.LEANS) & ~passed;
                }
            }
            for (int left = toTake; left > 0 && left < fewest.length; left = (left - 1) & toTake) {
                fewest[left] = 0;
            }
        }

        int termsFrom(int term) {
            int terms = fewestFor(this, toTake, term, 1);
            return terms > LAST_TERM ? NONE : terms;
        }

        int setAt(int term, int terms, int i) {
            if (i >= terms) {
                return NONE;
            }
            int left = toTake;
            int set = 0;
            for (int ahead = 0; ahead <= i; ahead++) {
                set = greatestSet(left, (term + ahead) % TERMS_A_YEAR, terms - ahead - 1);
                left &= ~set;
            }
            return set;
        }

        /** To take more at once is never worse, for the terms or as a number: only the fullest sets are looked at. */
        private int greatestSet(int left, int term, int rest) {
            int free = freeIn(left, term);
            int full = Math.min(most, Integer.bitCount(free));
            int next = (term + 1) % TERMS_A_YEAR;
            for (int set = free; set > 0; set = (set - 1) & free) {
                if (Integer.bitCount(set) == full && fewestFor(this, left & ~set, next, 1) <= rest) {
                    return set;
                }
            }
            return 0;
        }

        private static int fewestFor(Ways ways, int left, int term, int depth) {
            if (left == 0) {
                return 0;
            }
            if (depth > LAST_TERM || left < 0 || left >= ways.fewest.length) {
                return NEVER;
            }
            int found = (ways.fewest[left] >> (BITS_A_TERM * term)) & NEVER;
            if (found != 0) {
                return found;
            }
            int free = ways.freeIn(left, term);
            int full = Math.min(ways.most, Integer.bitCount(free));
            int next = (term + 1) % TERMS_A_YEAR;
            int least = ways.leastFor(left, term);
            int terms = NEVER;
            int set = 0;
            for (int sets = 1 << Integer.bitCount(free); sets > 0 && terms > least; sets--) {
                if (Integer.bitCount(set) == full && 1 + ways.leastFor(left & ~set, next) < terms) {
                    terms = Math.min(terms, 1 + fewestFor(ways, left & ~set, next, depth + 1));
                }
                set = (set - free) & free;
            }
            ways.fewest[left] |= terms << (BITS_A_TERM * term);
            return terms;
        }

        private int freeIn(int left, int term) {
            int free = 0;
            for (int course = 0; course < COURSES; course++) {
                boolean waits = ((left >> course) & 1) == 1 && (house.courses.get(course, House.LEANS) & left) == 0;
                if (waits && isTaught(course, term)) {
                    free |= 1 << course;
                }
            }
            return free;
        }

        private boolean isTaught(int course, int term) {
            return ((house.courses.get(course, House.TERMS) >> term) & 1) == 1;
        }

        /** No way is shorter: each course behind those it leans on, and no term with more than it may have. */
        private int leastFor(int left, int term) {
            int least = 0;
            waiting.fillColumn(0, 0, 1 << TERMS_A_YEAR);
            for (int course = 0; course < COURSES; course++) {
                if (((left >> course) & 1) == 1) {
                    int at = earliest(course, left, term);
                    early.set(course, 0, at);
                    least = Math.max(least, at);
                    waiting.add(house.courses.get(course, House.TERMS), 0, 1);
                }
            }
            for (int terms = 1; terms < 1 << TERMS_A_YEAR; terms++) {
                least = Math.max(least, leastWithin(terms, term));
            }
            return least;
        }

        /** How many terms it takes till those courses have had room that are taught in no other terms than these. */
        private int leastWithin(int terms, int term) {
            int left = 0;
            for (int taught = 1; taught <= terms; taught++) {
                left += (taught & ~terms) == 0 ? waiting.get(taught, 0) : 0;
            }
            int at = 0;
            while (left > 0 && at < LAST_TERM) {
                if (((terms >> ((term + at) % TERMS_A_YEAR)) & 1) == 1) {
                    left -= most;
                }
                at++;
            }
            return at;
        }

        private int earliest(int course, int left, int term) {
            int leans = house.courses.get(course, House.LEANS) & left;
            int at = 1;
            for (int other = 0; other < course; other++) {
                if (((leans >> other) & 1) == 1) {
                    at = Math.max(at, early.get(other, 0) + 1);
                }
            }
            for (int turn = 1; turn < TERMS_A_YEAR && !isTaught(course, (term + at - 1) % TERMS_A_YEAR); turn++) {
                at++;
            }
            return at;
        }
    }

    /** Papers put to hours. */
    private static final class Papers {
        private final House house;
        private final int[] sitters = new int[PAPERS];
        private final int[] hour = new int[PAPERS];
        private final int[] busy = new int[PAPERS];
        private final int[] taken = new int[PAPERS];
        private int papers;
        private int seats;

        Papers(House house) {
            this.house = house;
        }

        int setHours(int courses, int seatsInAll) {
            seats = seatsInAll;
            papers = 0;
            for (int course = 0; course < COURSES && papers < sitters.length; course++) {
                if (((courses >> course) & 1) == 1) {
                    sitters[papers] = sittersOf(course);
                    papers++;
                }
            }
            for (int paper = 0; paper < papers && paper < sitters.length; paper++) {
                if (Integer.bitCount(sitters[paper]) > seats) {
                    return NONE;
                }
            }
            for (int hours = 0; hours <= papers; hours++) {
                if (place(this, 0, 0, hours)) {
                    return hours;
                }
            }
            return NONE;
        }

        int hourAt(int paper) {
            return paper >= 0 && paper < papers && paper < hour.length ? hour[paper] : NONE;
        }

        private int sittersOf(int course) {
            int set = 0;
            for (int student = 0; student < house.students.size(); student++) {
                if (((house.students.get(student, House.SITTING) >> course) & 1) == 1) {
                    set |= 1 << student;
                }
            }
            return set;
        }

        /** The first row of hours opens them in order, so a paper goes to one of those in use or to the next. */
        private static boolean place(Papers all, int paper, int used, int hours) {
            if (paper >= all.papers || paper >= PAPERS) {
                return true;
            }
            for (int at = 0; at <= used && at < hours && at < PAPERS; at++) {
                if (at == used) {
                    all.busy[at] = 0;
                    all.taken[at] = 0;
                }
                if (all.takes(at, paper)) {
                    int busy = all.busy[at];
                    int taken = all.taken[at];
                    all.hour[paper] = at;
                    all.busy[at] = busy | all.sitters[paper];
                    all.taken[at] = taken + Integer.bitCount(all.sitters[paper]);
                    if (place(all, paper + 1, Math.max(used, at + 1), hours)) {
                        return true;
                    }
                    all.busy[at] = busy;
                    all.taken[at] = taken;
                }
            }
            return false;
        }

        private boolean takes(int at, int paper) {
            return (busy[at] & sitters[paper]) == 0 && taken[at] + Integer.bitCount(sitters[paper]) <= seats;
        }
    }

    /** Examiners' habits held against chance. */
    private static final class Habits {
        // Ten limbs hold 2 to the 250th times the greatest odds, the lowest limb first.
        private static final int LIMBS = 10, LIMB_BITS = 30;

        private final House house;
        private final Known known;
        private final long[] ways = new long[LIMBS];
        private final long[] tail = new long[LIMBS];
        private int pairs;
        private int differing;
        private int above;
        private int more;

        Habits(House house, Known known) {
            this.house = house;
            this.known = known;
        }

        void gather(int examiner) {
            pairs = 0;
            differing = 0;
            above = 0;
            more = 0;
            for (int act = 0; act < house.acts.size(); act++) {
                if (known.holds(act) && house.acts.get(act, House.EXAMINER) == examiner) {
                    if (house.isA(House.MARK, act) && known.secondOf(act) != NONE) {
                        addPair(act, known.secondOf(act));
                    } else if (house.isA(House.SECOND, act)) {
                        addPair(act, house.acts.get(act, House.OF));
                    }
                }
            }
        }

        private void addPair(int act, int other) {
            int by = house.acts.get(act, House.VALUE) - house.acts.get(other, House.VALUE);
            pairs++;
            more += by;
            differing += by != 0 ? 1 : 0;
            above += by > 0 ? 1 : 0;
        }

        int differing() {
            return differing;
        }

        int above() {
            return above;
        }

        int meanMore() {
            return pairs == 0 ? 0 : more / pairs;
        }

        boolean isHard(int examiner) {
            int others = 0;
            for (int one = 0; one < EXAMINERS; one++) {
                gather(one);
                others += differing > 0 ? 1 : 0;
            }
            gather(examiner);
            countTail(Math.min(above, differing - above));
            multiply(tail, 2 * others * house.odds);
            return isAtMostPower(differing);
        }

        /** The lesser chance is that of the greater number; as many ways lead to the lesser number or fewer. */
        private void countTail(int upTo) {
            Arrays.fill(ways, 0L);
            Arrays.fill(tail, 0L);
            ways[0] = 1;
            tail[0] = 1;
            for (int i = 0; i < upTo; i++) {
                multiply(ways, differing - i);
                divide(ways, i + 1);
                addWaysToTail();
            }
        }

        private static void multiply(long[] limbs, int by) {
            long carry = 0;
            for (int i = 0; i < limbs.length; i++) {
                carry += limbs[i] * by;
                limbs[i] = carry & ((1L << LIMB_BITS) - 1);
                carry >>= LIMB_BITS;
            }
        }

        private static void divide(long[] limbs, int by) {
            long rest = 0;
            for (int i = limbs.length - 1; i >= 0 && by > 0; i--) {
                rest = (rest << LIMB_BITS) + limbs[i];
                limbs[i] = rest / by;
                rest %= by;
            }
        }

        private void addWaysToTail() {
            long carry = 0;
            for (int i = 0; i < tail.length && i < ways.length; i++) {
                carry += tail[i] + ways[i];
                tail[i] = carry & ((1L << LIMB_BITS) - 1);
                carry >>= LIMB_BITS;
            }
        }

        /** Whether the tail is no more than 2 to the power. */
        private boolean isAtMostPower(int power) {
            int place = power / LIMB_BITS;
            long bit = 1L << (power % LIMB_BITS);
            boolean lesserLimbs = false;
            for (int i = tail.length - 1; i >= 0; i--) {
                if ((i > place && tail[i] != 0) || (i == place && tail[i] > bit)) {
                    return false;
                }
                if (i == place && tail[i] < bit) {
                    return true;
                }
                lesserLimbs |= i < place && tail[i] != 0;
            }
            return !lesserLimbs;
        }
    }

    /** The lines of two offices' lists that are to be doubted. */
    private static final class Doubts {
        private final int[] turns = new int[LINES];
        private int chosen;
        private int rivals;

        int chosen() {
            return chosen;
        }

        int rivals() {
            return rivals;
        }

        /** Goes through all sets as numbers; from one to the next a line comes in and all lesser lines go out. */
        void search(Rows lines, int sum) {
            int together = prepare(lines);
            int fewest = LINES + 1;
            chosen = NONE;
            rivals = 0;
            for (int set = 0; set < (1 << Math.min(lines.size(), LINES)); set++) {
                int comesIn = Integer.numberOfTrailingZeros(set);
                together += set > 0 && comesIn < turns.length ? turns[comesIn] : 0;
                int many = Integer.bitCount(set);
                if (together == sum && many < fewest) {
                    chosen = set;
                    fewest = many;
                    rivals = 0;
                } else if (together == sum && many == fewest) {
                    rivals++;
                }
            }
        }

        private int prepare(Rows lines) {
            int together = 0;
            int lesser = 0;
            for (int line = 0; line < lines.size() && line < turns.length; line++) {
                int first = lines.get(line, House.ONE_OFFICE);
                int more = lines.get(line, House.OTHER_OFFICE) - first;
                together += first;
                turns[line] = more - lesser;
                lesser += more;
            }
            return together;
        }
    }
}
