import java.util.ArrayList;
import java.util.List;

/**
 * "Refused, changing nothing, the first of: BAD -2 a number is not as told; NO -3 as told; FULL -4." Each number that a call
 * is told is tried at its brinks: the last that is taken, the first that is refused, on both sides; what is refused changes
 * nothing, as later calls show (Twins); of two reasons to refuse the first is told; and what the empty house answers.
 */
public final class RefusalsTest {
    private static final int MAX = Integer.MAX_VALUE, MIN = Integer.MIN_VALUE, LAST = 9999;
    private static final int BAD = -2, NO = -3, FULL = -4;
    private static final long TELLS_BAD = -2000000000000000000L, TELLS_NO = -3000000000000000000L;

    /** A call, what it is told in house(), the least and the greatest of each number, and what an empty house answers. */
    private static final class Row {
        final String name;
        final long bad;
        final long whenEmpty;
        final Twins.Call call;
        final int[] told;
        final int[] range;

        Row(String name, long bad, long whenEmpty, Twins.Call call, int[] told, int[] range) {
            this.name = name;
            this.bad = bad;
            this.whenEmpty = whenEmpty;
            this.call = call;
            this.told = told;
            this.range = range;
        }

        int[] with(int at, int v) {
            int[] other = told.clone();
            other[at] = v;
            return other;
        }

        String named(int[] a) {
            return Twins.named(name, a);
        }
    }

    private static final List<Row> ROWS = new ArrayList<>();

    private RefusalsTest() {
    }

    public static void main(String[] args) {
        tellRows();
        askRows();
        restRows();
        brinks();
        twoNumbers();
        emptyHouse();
        fullTables();
        fullActs();
        reasonsForNo();
        noAheadOfFull();
        oddSets();
        whatIsTakenShows();
        Check.end("RefusalsTest");
    }

    private static int[] list(int... all) {
        return all;
    }

    private static void row(String name, long whenEmpty, Twins.Call call, int[] told, int... range) {
        ROWS.add(new Row(name, BAD, whenEmpty, call, told, range));
    }

    private static void row(String name, long bad, long whenEmpty, Twins.Call call, int[] told, int... range) {
        ROWS.add(new Row(name, bad, whenEmpty, call, told, range));
    }

    private static void tellRows() {
        row("course", BAD, (x, a) -> x.course(a[0], a[1], a[2], a[3]), list(5, 3, 5, 50), 1, 60, 0, 7, 1, 7, 0, 100);
        row("student", 0, (x, a) -> x.student(a[0]), list(5), 0, LAST);
        row("board", 0, (x, a) -> x.board(a[0], a[1]), list(5, 2), 1, 1023, 1, 10);
        row("meeting", BAD, (x, a) -> x.meeting(a[0], a[1], a[2], a[3]), list(1, 5, 3, 1), 0, 1, 0, LAST, 0, 1023, 0, 1023);
        row("mark", BAD, (x, a) -> x.mark(a[0], a[1], a[2], a[3], a[4], a[5]), list(0, 0, 50, 0, 5, 8),
            0, 1, 0, 2, 0, 100, 0, 4, 0, 8, 5, LAST);
        // The examiner 0 and the day 5 are those of the mark.
        row("second", BAD, (x, a) -> x.second(a[0], a[1], a[2], a[3], a[4]), list(0, 50, 4, 6, 8),
            0, 2, 0, 100, 1, 4, 5, 8, 6, LAST);
        row("moderate", BAD, (x, a) -> x.moderate(a[0], a[1], a[2], a[3]), list(0, 50, 0, 20), 0, 2, 0, 100, 0, 2, 10, LAST);
        row("scale", BAD, (x, a) -> x.scale(a[0], a[1], a[2], a[3], a[4], a[5]), list(0, 3, 2, 1, 0, 20),
            0, 2, 1, 200, 1, 200, -50, 50, 0, 2, 10, LAST);
        row("excuse", BAD, (x, a) -> x.excuse(a[0], a[1], a[2], a[3]), list(0, 0, 0, 20), 0, 1, 0, 2, 0, 2, 10, LAST);
        row("strike", BAD, (x, a) -> x.strike(a[0], a[1], a[2]), list(0, 0, 20), 0, 9, 0, 2, 10, LAST);
        row("degree", BAD, (x, a) -> x.degree(a[0], a[1], a[2]), list(0, 0, 20), 0, 1, 0, 2, 10, LAST);
        row("appeal", BAD, (x, a) -> x.appeal(a[0], a[1]), list(4, 15), 0, 9, 0, LAST);
        row("days", 30, (x, a) -> x.days(a[0]), list(5), 0, 1000);
        row("odds", 20, (x, a) -> x.odds(a[0]), list(5), 1, 10000);
        row("write", 1, (x, a) -> x.write(a[0], a[1]), list(0, 65), 0, 7, 0, 127);
        row("erase", 0, (x, a) -> x.erase(a[0]), list(0), 0, 7);
        row("ordain", NO, (x, a) -> x.ordain(a[0], a[1], a[2], true), list(0, 1, 5), 0, 7, 0, 7, 0, LAST);
        row("choose", -10, -10, (x, a) -> x.choose(a[0], a[1]), list(0, 0), 0, 1, -1, 1);
        row("line", 1, (x, a) -> x.line(a[0], a[1]), list(5, 6), 0, 1000, 0, 1000);
        row("image", 1, (x, a) -> x.image(a[0]), list(0), 0, 1);
        row("from", NO, (x, a) -> x.from(a[0]), list(0), 0, 1);
    }

    private static void askRows() {
        row("tear", BAD, (x, a) -> x.tear(a[0], true), list(0), 0, 2);
        row("stands", BAD, (x, a) -> x.stands(a[0]), list(0), 0, 2);
        row("about", BAD, (x, a) -> x.about(a[0], a[1]), list(0, 0), 0, 9, 0, 7);
        row("counts", BAD, (x, a) -> x.counts(a[0], a[1]), list(0, 10), 0, 9, 0, LAST);
        row("step", BAD, (x, a) -> x.step(a[0], a[1], a[2]), list(0, 0, 10), 0, 2, 0, 4, 0, LAST);
        row("outcome", BAD, (x, a) -> x.outcome(a[0], a[1], a[2], a[3]), list(0, 0, 10, 0), 0, 1, 0, 2, 0, LAST, 0, 2);
        row("passed", BAD, (x, a) -> x.passed(a[0], a[1], a[2]), list(0, 5, 5), 0, 1, 0, LAST, 0, LAST);
        row("grade", BAD, (x, a) -> x.grade(a[0], a[1], a[2]), list(0, 5, 5), 0, 1, 0, LAST, 0, LAST);
        row("number", BAD, (x, a) -> x.number(a[0], a[1], a[2], a[3]), list(0, 5, 5, 0), 0, 1, 0, LAST, 0, LAST, 0, 15);
        row("edge", BAD, (x, a) -> x.edge(a[0], a[1], a[2]), list(0, 5, 5), 0, 1, 0, LAST, 0, LAST);
        row("roll", BAD, (x, a) -> x.roll(a[0], a[1], a[2]), list(0, 5, 5), 0, 1, 0, LAST, 0, LAST);
        row("hangs", BAD, (x, a) -> x.hangs(a[0], a[1], a[2]), list(0, 5, 5), 0, 2, 0, LAST, 0, LAST);
    }

    private static void restRows() {
        row("fault", 1, (x, a) -> x.fault(a[0]), list(0), 0, 7);
        row("tells", TELLS_BAD, TELLS_BAD, (x, a) -> x.tells(a[0], a[1], a[2], a[3], a[4]), list(0, 0, 0, 5, 5),
            0, 7, 0, 1, -1, 2, 0, LAST, 0, LAST);
        row("binds", BAD, (x, a) -> x.binds(a[0], a[1]), list(0, 5), 0, 1, 0, LAST);
        row("way", BAD, (x, a) -> x.way(a[0], a[1], a[2], a[3], a[4], a[5]), list(0, 7, 0, 2, 5, 5),
            0, 1, 0, 7, 0, 2, 1, 4, 0, LAST, 0, LAST);
        row("wayAt", BAD, (x, a) -> x.wayAt(a[0], a[1], a[2], a[3], a[4], a[5], a[6]), list(0, 7, 0, 2, 5, 5, 0),
            0, 1, 0, 7, 0, 2, 1, 4, 0, LAST, 0, LAST, 0, MAX);
        row("sits", BAD, (x, a) -> x.sits(a[0], a[1], true), list(1, 0), 0, 1, 0, 2);
        row("hours", BAD, (x, a) -> x.hours(a[0], a[1]), list(7, 5), 0, 7, 1, 200);
        row("hourOf", BAD, (x, a) -> x.hourOf(a[0], a[1], a[2]), list(7, 5, 0), 1, 7, 1, 200, 0, 2);
        row("habit", -1000, 0, (x, a) -> x.habit(a[0], a[1], a[2]), list(0, 5, 0), 0, 4, 0, LAST, 0, 3);
        row("doubt", 0, (x, a) -> x.doubt(a[0], a[1]), list(0, 0), 0, 12000, 0, 1);
        row("count", 0, (x, a) -> x.count(a[0]), list(0), 0, 7);
    }

    /** Something of all that can be told, and one image. */
    private static SenateRoll house() {
        SenateRoll x = new SenateRoll();
        x.course(10, 0, 7, 40);
        x.course(20, 1, 1, 100);
        x.course(30, 0, 2, 50);
        x.student(100);
        x.student(5);
        x.board(3, 2);
        x.board(1, 1);
        x.meeting(0, 10, 3, 3);
        x.meeting(1, 20, 1, 0);
        x.meeting(0, 15, 1023, 1023);
        x.mark(0, 0, 60, 0, 5, 8);
        x.mark(0, 0, 80, 1, 6, 6);
        x.mark(1, 1, 35, 2, 5, 5);
        x.image(0);
        x.second(0, 52, 3, 7, 9);
        x.moderate(2, 45, 0, 12);
        x.scale(0, 11, 10, -3, 2, 15);
        x.excuse(1, 2, 0, 11);
        x.strike(5, 2, 30);
        x.degree(0, 2, 16);
        x.appeal(8, 25);
        Texts.put(x, 0, "mark>9");
        Texts.put(x, 1, "best 1");
        Texts.put(x, 2, "1+");
        x.ordain(0, 1, 50, false);
        x.ordain(0, 0, 200, true);
        x.choose(1, 0);
        x.sits(0, 0, true);
        x.sits(0, 1, true);
        x.line(3, 5);
        x.line(4, 4);
        x.days(12);
        x.odds(3);
        return x;
    }

    private static boolean isRefused(Row row, long answer) {
        return answer == row.bad || answer == NO || answer == FULL || answer == TELLS_NO;
    }

    private static void refused(Row row, int[] a, long due, SenateRoll x, SenateRoll twin) {
        Check.same(row.named(a), row.call.on(x, a), due);
        Twins.alike("after the refused " + row.named(a), x, twin);
    }

    private static void brinks() {
        for (Row row : ROWS) {
            SenateRoll first = house();
            Check.same(row.named(row.told) + " is taken", isRefused(row, row.call.on(first, row.told)) ? 1 : 0, 0);
            for (int at = 0; at < row.told.length; at++) {
                int least = row.range[2 * at];
                int greatest = row.range[2 * at + 1];
                for (int taken : list(least, greatest)) {
                    long got = row.call.on(house(), row.with(at, taken));
                    Check.same(row.named(row.with(at, taken)) + " is not BAD", got == row.bad ? 1 : 0, 0);
                }
                refused(row, row.with(at, least - 1), row.bad, house(), house());
                refused(row, row.with(at, MIN), row.bad, house(), house());
                if (greatest < MAX) {
                    refused(row, row.with(at, greatest + 1), row.bad, house(), house());
                    refused(row, row.with(at, MAX), row.bad, house(), house());
                }
            }
        }
    }

    private static void twoNumbers() {
        for (Row row : ROWS) {
            for (int v : list(MIN, MAX, -11)) {
                int[] a = row.told.clone();
                java.util.Arrays.fill(a, v);
                refused(row, a, row.bad, house(), house());
            }
        }
    }

    private static void emptyHouse() {
        for (Row row : ROWS) {
            SenateRoll x = new SenateRoll();
            Check.same("of an empty house: " + row.named(row.told), row.call.on(x, row.told), row.whenEmpty);
            if (row.whenEmpty <= -2) {
                Twins.alike("of an empty house, after the refused " + row.named(row.told), x, new SenateRoll());
            }
        }
        Check.same("of an empty house: clear()", new SenateRoll().clear(), 0);
    }

    private static Row rowOf(String name) {
        for (Row row : ROWS) {
            if (row.name.equals(name)) {
                return row;
            }
        }
        throw new IllegalArgumentException(name);
    }

    /** All tables but that of the acts are full, and the text 0 is. */
    private static SenateRoll fullHouse() {
        SenateRoll x = house();
        for (int i = 3; i < 14; i++) {
            x.course(10, 0, 7, 40);
        }
        for (int i = 2; i < 20; i++) {
            x.student(7);
        }
        x.board(1, 1);
        x.board(1, 1);
        for (int i = 3; i < 40; i++) {
            x.meeting(0, 11, 3, 3);
        }
        for (int i = 2; i < 10; i++) {
            x.ordain(1, 1, LAST, false);
        }
        for (int i = 2; i < 12; i++) {
            x.line(0, 0);
        }
        for (int i = 6; i < 80; i++) {
            x.write(0, ' ');
        }
        return x;
    }

    private static void fullTables() {
        for (String name : new String[] {"course", "student", "board", "meeting", "line", "write", "ordain"}) {
            Row row = rowOf(name);
            refused(row, row.told, FULL, fullHouse(), fullHouse());
            badAheadOfFull(row, fullHouse());
        }
    }

    /** As many acts as there can be: two by meetings and marks. */
    private static SenateRoll fullOfActs() {
        SenateRoll x = house();
        for (int i = 10; i < 250; i++) {
            x.mark(0, 0, 50, 0, 5, 8);
        }
        return x;
    }

    private static void fullActs() {
        for (String name : new String[] {"mark", "second", "moderate", "scale", "excuse", "strike", "degree", "appeal"}) {
            Row row = rowOf(name);
            refused(row, row.told, FULL, fullOfActs(), fullOfActs());
            if (!name.equals("strike") && !name.equals("appeal")) {
                badAheadOfFull(row, fullOfActs());
            }
        }
        Row strike = rowOf("strike");
        Row appeal = rowOf("appeal");
        SenateRoll x = fullOfActs();
        Check.same("full: strike(250, 0, 20)", strike.call.on(x, strike.with(0, 250)), BAD);
        Check.same("full: strike(249, 0, 20)", strike.call.on(x, strike.with(0, 249)), FULL);
        Check.same("full: strike(0, 3, 20)", strike.call.on(x, strike.with(1, 3)), BAD);
        Check.same("full: strike(0, 0, 9)", strike.call.on(x, strike.with(2, 9)), BAD);
        Check.same("full: appeal(250, 15)", appeal.call.on(x, appeal.with(0, 250)), BAD);
        Check.same("full: appeal(4, 10000)", appeal.call.on(x, appeal.with(1, 10000)), BAD);
        Check.same("full, NO ahead of it: appeal(249, 15)", appeal.call.on(x, appeal.with(0, 249)), NO);
        Check.same("full, NO ahead of it: appeal(4, 23)", appeal.call.on(x, appeal.with(1, 23)), NO);
        Check.same("full, NO ahead of it: appeal(4, 9)", appeal.call.on(x, appeal.with(1, 9)), NO);
        Check.same("full: the last day of an appeal", appeal.call.on(x, appeal.with(1, 22)), FULL);
    }

    /** The full tables that a call asks of have greater numbers in them, so only what is least by far or too great is BAD. */
    private static void badAheadOfFull(Row row, SenateRoll x) {
        for (int at = 0; at < row.told.length; at++) {
            for (int v : list(MIN, row.range[2 * at] - 1, MAX)) {
                Check.same("full, BAD ahead of it: " + row.named(row.with(at, v)), row.call.on(x, row.with(at, v)), row.bad);
            }
        }
    }

    private static void no(String name, int... told) {
        refused(rowOf(name), told, rowOf(name).bad == TELLS_BAD ? TELLS_NO : NO, house(), house());
    }

    private static void reasonsForNo() {
        no("appeal", 0, 8);
        no("appeal", 3, 9);
        no("appeal", 9, 25);
        no("appeal", 4, 9);
        no("appeal", 4, 0);
        no("appeal", 4, 23);
        no("appeal", 4, LAST);
        no("hangs", 1, 5, 5);
        no("tells", 2, 0, 0, 5, 5);
        no("tells", 7, 0, -1, 5, 5);
        no("ordain", 2, 1, 5);
        no("ordain", 0, 2, 5);
        no("ordain", 7, 2, 5);
        no("sits", 0, 0);
        no("from", 1);
        SenateRoll x = house();
        Check.same("tear(0, false) of one that is not void", x.tear(0, false), NO);
        Check.same("sits(1, 0, false) of one that is not", x.sits(1, 0, false), NO);
        Twins.alike("after the refused tear and sits", x, house());
        x = house();
        SenateRoll twin = house();
        x.tear(0, true);
        twin.tear(0, true);
        Check.same("tear(0, true) of one that is void", x.tear(0, true), NO);
        Twins.alike("after the refused tear(0, true)", x, twin);
        x = fullHouse();
        Check.same("hours of ten papers", x.hours(1023, 200), NO);
        Check.same("hours of ten papers, too few seats for one of them too", x.hours(1023, 1), NO);
        Check.same("hourOf of ten papers", x.hourOf(1023, 200, 0), NO);
        Check.same("hourOf of all papers", x.hourOf(16383, 1, 13), NO);
        Twins.alike("after the refused hours", x, fullHouse());
    }

    private static void noAheadOfFull() {
        SenateRoll x = fullHouse();
        Check.same("a FAULT ahead of FULL", x.ordain(2, 1, 5, true), NO);
        Check.same("a FAULT in the other, ahead of FULL", x.ordain(1, 2, 5, true), NO);
        Check.same("BAD ahead of a FAULT", x.ordain(2, 8, 5, true), BAD);
        Check.same("BAD ahead of a FAULT: the day", x.ordain(2, 2, 10000, true), BAD);
        Check.same("BAD ahead of a FAULT: tells", x.tells(2, 20, 0, 5, 5), TELLS_BAD);
        Check.same("BAD ahead of NO: hours", x.hours(1023, 201), BAD);
        Check.same("BAD ahead of NO: papers that are none", x.hours(-1, 5), BAD);
        Check.same("BAD ahead of NO: not one of ten", x.hourOf(1023, 5, 10), BAD);
        Check.same("BAD ahead of NO: hangs", x.hangs(1, 10000, 5), BAD);
        Check.same("BAD ahead of NO: hangs, k", x.hangs(1, 5, -1), BAD);
        Check.same("BAD ahead of NO: appeal", x.appeal(0, 10000), BAD);
        Twins.alike("after what was refused", x, fullHouse());
    }

    /** What is taken does change later answers, so that Twins would see it of a refused call; an IMAGE takes it back. */
    private static void whatIsTakenShows() {
        String[] names = {"course", "student", "board", "meeting", "tear", "mark", "second", "moderate", "scale", "excuse",
            "strike", "degree", "appeal", "days", "odds", "write", "erase", "ordain", "line", "image", "sits"};
        for (String name : names) {
            Row row = rowOf(name);
            SenateRoll x = house();
            row.call.on(x, row.told);
            Check.same(row.named(row.told) + " shows", Twins.differ(x, house()) ? 1 : 0, 1);
            if (!name.equals("image")) {
                goesOnFromAnImage(row, row.told);
            }
        }
        SenateRoll x = house();
        Check.same("choose(1, -1): what it had", x.choose(1, -1), 0);
        Check.same("choose(1, -1) shows", Twins.differ(x, house()) ? 1 : 0, 1);
        goesOnFromAnImage(rowOf("choose"), list(1, -1));
        goesOnFromAnImage(rowOf("choose"), list(0, 1));
        x = house();
        Check.same("from(0)", x.from(0), 1);
        Check.same("from(0) shows", Twins.differ(x, house()) ? 1 : 0, 1);
        goesOnFromAnImage(rowOf("from"), list(0));
        x = house();
        Check.same("clear()", x.clear(), 2);
        Check.same("clear() shows", Twins.differ(x, house()) ? 1 : 0, 1);
    }

    private static void goesOnFromAnImage(Row row, int[] told) {
        SenateRoll x = house();
        SenateRoll twin = house();
        x.image(1);
        twin.image(1);
        row.call.on(x, told);
        row.call.on(x, told);
        x.clear();
        Check.same("from(1)", x.from(1), 1);
        Twins.alike("from an image, after " + row.named(told), x, twin);
    }

    /** Bits of courses that are there and of some that are not. */
    private static void oddSets() {
        for (int set : list(8, 9, 15, 1 << 13, 1 << 14, MIN, MIN + 1, -1, MAX)) {
            refused(rowOf("course"), list(5, set, 5, 50), BAD, house(), house());
            refused(rowOf("way"), list(0, set, 0, 2, 5, 5), BAD, house(), house());
            refused(rowOf("wayAt"), list(0, set, 0, 2, 5, 5, 0), BAD, house(), house());
            refused(rowOf("hours"), list(set, 5), BAD, house(), house());
            refused(rowOf("hourOf"), list(set, 5, 0), BAD, house(), house());
        }
        for (int course : list(3, 31, 32, 33, 34, 64, -32, -31)) {
            refused(rowOf("hourOf"), list(7, 5, course), BAD, house(), house());
            refused(rowOf("sits"), list(1, course), BAD, house(), house());
        }
        for (int seats : list(1024, 1025, 2047, MIN, -1, MAX)) {
            refused(rowOf("board"), list(seats, 1), BAD, house(), house());
            refused(rowOf("meeting"), list(0, 5, seats, 1), BAD, house(), house());
            refused(rowOf("meeting"), list(0, 5, 1, seats), BAD, house(), house());
        }
    }
}
