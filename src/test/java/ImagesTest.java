/** Promises 44 to 47. */
public final class ImagesTest {
    private ImagesTest() {
    }

    public static void main(String[] args) {
        refusals();
        keeping();
        counts();
        digests();
        Check.end("ImagesTest");
    }

    private static void refusals() {
        SenateRoll x = new SenateRoll();
        Check.same("promise 44: -1", x.image(-1), -2);
        Check.same("promise 44: 2", x.image(2), -2);
        Check.same("promise 45: -1", x.from(-1), -2);
        Check.same("promise 45: 2", x.from(2), -2);
        Check.same("promise 45: none was kept", x.from(0), -3);
        Check.same("promise 44: kept", x.image(1), 1);
        Check.same("promise 45: the other was not kept", x.from(0), -3);
        Check.same("promise 45: this one was", x.from(1), 1);
    }

    /** One of all that can be told. */
    private static SenateRoll house() {
        SenateRoll x = new SenateRoll();
        x.course(10, 0, 7, 40);
        x.course(11, 1, 3, 41);
        x.student(100);
        x.board(3, 1);
        x.meeting(0, 10, 3, 1);
        x.mark(0, 0, 60, 0, 5, 6);
        x.second(0, 58, 1, 7, 8);
        Texts.put(x, 0, "mark > 20");
        Texts.put(x, 1, "credit / 5");
        x.ordain(0, 1, 50, false);
        x.choose(0, 0);
        x.sits(0, 1, true);
        x.line(3, 4);
        x.days(12);
        x.odds(13);
        return x;
    }

    private static void changeAll(SenateRoll x) {
        x.course(9, 0, 1, 1);
        x.student(7);
        x.board(1, 1);
        x.meeting(1, 3, 1, 1);
        x.tear(0, true);
        x.strike(0, 1, 4);
        x.mark(0, 1, 60, 0, 5, 6);
        Texts.put(x, 0, "0");
        Texts.put(x, 2, "9");
        x.ordain(0, 2, 0, true);
        x.choose(0, -1);
        x.sits(0, 1, false);
        x.sits(0, 0, true);
        x.clear();
        x.line(5, 5);
        x.line(6, 6);
        x.days(1);
        x.odds(1);
    }

    private static void keeping() {
        SenateRoll x = house();
        long before = x.digest();
        x.image(0);
        changeAll(x);
        long behind = x.digest();
        Check.same("promise 45: all was changed", before != behind ? 1 : 0, 1);
        x.image(1);
        Check.same("promise 45: back", x.from(0), 1);
        Check.same("promise 45: the digest", x.digest(), before);
        int[] counts = {2, 1, 1, 1, 2, 1, 1, 1};
        for (int what = 0; what < counts.length; what++) {
            Check.same("promise 45: count(" + what + ")", x.count(what), counts[what]);
        }
        Check.same("promise 45: what passes", x.passed(0, 60, 99), 1);
        Check.same("promise 45: the class", x.grade(0, 60, 99), 2);
        Check.same("promise 45: the ordinance", x.binds(0, 60), 0);
        Check.same("promise 45: the lines", x.doubt(4, 0), 1);
        Check.same("promise 45: the papers", x.sits(0, 1, true), -3);
        Check.same("promise 45: the odds", x.odds(13), 13);
        Check.same("promise 45: the days", x.days(12), 12);
        Check.same("promise 45: the board", x.meeting(1, 1, 1, 1), -2);
        changeAll(x);
        Check.same("promise 45: the same twice", x.from(0) + x.from(0), 2);
        Check.same("promise 45: an image is not what goes on from it", x.digest(), before);
        Check.same("promise 45: the other one", x.from(1), 1);
        Check.same("promise 45: its digest", x.digest(), behind);
        Check.same("promise 45: its class", x.grade(0, 60, 99), 9);
        Check.same("promise 44: kept anew", x.image(0), 1);
        x.from(0);
        Check.same("promise 44: what was kept last", x.digest(), behind);
    }

    private static void counts() {
        SenateRoll x = house();
        Check.same("promise 46: -1", x.count(-1), -2);
        Check.same("promise 46: 8", x.count(8), -2);
        int[] due = {2, 1, 1, 1, 2, 1, 1, 1};
        for (int what = 0; what < due.length; what++) {
            Check.same("promise 46: count(" + what + ")", x.count(what), due[what]);
        }
        x.tear(0, true);
        Check.same("promise 46: those that stand", x.count(7), 0);
        Check.same("promise 46: all meetings", x.count(3), 1);
    }

    private static long sum(int... values) {
        long h = 283;
        for (int v : values) {
            h = 31 * h + v;
        }
        return h;
    }

    private static void digests() {
        Check.same("promise 47: a new object", new SenateRoll().digest(),
            sum(0, 0, 0, 0, 0, 0, 0, 0, 0, 0, 0, 0, 0, 0, 0, 0, 30, 20));
        SenateRoll x = house();
        int[] counts = {2, 1, 1, 1, 2, 1, 1, 1};
        int[] courses = {10, 0, 7, 40, 11, 1, 3, 41};
        int[] students = {100, 0, 2};
        int[] meetings = {0, 10, 3, 1, 0};
        int[] acts = {0, 5, 6, -1, 0, 0, -1, 60, 1, 7, 8, -1, -1, -1, 0, 58};
        int[] texts = {9, 'm', 'a', 'r', 'k', ' ', '>', ' ', '2', '0', 10, 'c', 'r', 'e', 'd', 'i', 't', ' ', '/', ' ', '5',
            0, 0, 0, 0, 0, 0};
        Check.same("promise 47: one of all", x.digest(), sum(all(counts, courses, students, meetings, acts, texts, new int[] {12, 13})));
        x.tear(0, true);
        counts[7] = 0;
        meetings[4] = 1;
        x.choose(0, -1);
        students[1] = -1;
        Check.same("promise 47: void, none chosen", x.digest(),
            sum(all(counts, courses, students, meetings, acts, texts, new int[] {12, 13})));
    }

    private static int[] all(int[]... parts) {
        return java.util.Arrays.stream(parts).flatMapToInt(java.util.Arrays::stream).toArray();
    }
}
