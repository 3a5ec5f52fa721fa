/** Promises 1 to 7. */
public final class CoursesTest {
    private static final int MAX = Integer.MAX_VALUE, MIN = Integer.MIN_VALUE;

    private CoursesTest() {
    }

    public static void main(String[] args) {
        newObject();
        courses();
        students();
        boards();
        meetings();
        tearing();
        standing();
        Check.end("CoursesTest");
    }

    private static void newObject() {
        SenateRoll x = new SenateRoll();
        for (int what = 0; what <= 7; what++) {
            Check.same("promise 1: count(" + what + ")", x.count(what), 0);
        }
        for (int text = 0; text <= 7; text++) {
            Check.same("promise 1: an empty text's fault", x.fault(text), 1);
            Check.same("promise 1: erase", x.erase(text), 0);
        }
        Check.same("promise 1: days", x.days(30), 30);
        Check.same("promise 1: odds", x.odds(20), 20);
        Check.same("promise 1: clear", x.clear(), 0);
        Check.same("promise 1: from(0)", x.from(0), -3);
        Check.same("promise 1: from(1)", x.from(1), -3);
        Check.same("promise 1: doubt", x.doubt(0, 0), 0);
        Check.same("promise 1: hours", x.hours(0, 1), 0);
    }

    private static void courses() {
        SenateRoll x = new SenateRoll();
        Check.same("promise 2: credit 0", x.course(0, 0, 7, 40), -2);
        Check.same("promise 2: credit 61", x.course(61, 0, 7, 40), -2);
        Check.same("promise 2: the first leans on none", x.course(1, 1, 7, 40), -2);
        Check.same("promise 2: leans -1", x.course(1, -1, 7, 40), -2);
        Check.same("promise 2: terms 0", x.course(1, 0, 0, 40), -2);
        Check.same("promise 2: terms 8", x.course(1, 0, 8, 40), -2);
        Check.same("promise 2: cap -1", x.course(1, 0, 1, -1), -2);
        Check.same("promise 2: cap 101", x.course(1, 0, 1, 101), -2);
        Check.same("promise 2: far outside", x.course(MAX, MIN, MAX, MIN), -2);
        Check.same("promise 2: count after BAD", x.count(0), 0);
        Check.same("promise 2: the first", x.course(1, 0, 1, 0), 0);
        Check.same("promise 2: leans on itself", x.course(60, 2, 7, 100), -2);
        Check.same("promise 2: the second", x.course(60, 1, 7, 100), 1);
        for (int i = 2; i < 14; i++) {
            Check.same("promise 2: the next", x.course(10, (1 << i) - 1, 7, 100), i);
        }
        Check.same("promise 2: full", x.course(10, 0, 7, 100), -4);
        Check.same("promise 2: full, leaning on all", x.course(10, 16383, 7, 100), -4);
        Check.same("promise 2: BAD ahead of FULL", x.course(10, 16384, 7, 100), -2);
        Check.same("promise 2: count", x.count(0), 14);
    }

    private static void students() {
        SenateRoll x = new SenateRoll();
        Check.same("promise 3: day -1", x.student(-1), -2);
        Check.same("promise 3: day 10000", x.student(10000), -2);
        for (int i = 0; i < 20; i++) {
            Check.same("promise 3: the next", x.student(i % 2 == 0 ? 0 : 9999), i);
        }
        Check.same("promise 3: full", x.student(5), -4);
        Check.same("promise 3: BAD ahead of FULL", x.student(MIN), -2);
        Check.same("promise 3: count", x.count(1), 20);
    }

    private static void boards() {
        SenateRoll x = new SenateRoll();
        Check.same("promise 4: no seats", x.board(0, 1), -2);
        Check.same("promise 4: seat 10", x.board(1024, 1), -2);
        Check.same("promise 4: seats -1", x.board(-1, 1), -2);
        Check.same("promise 4: quorum 0", x.board(1, 0), -2);
        Check.same("promise 4: quorum 11", x.board(1, 11), -2);
        Check.same("promise 4: the first", x.board(1, 10), 0);
        Check.same("promise 4: the second", x.board(1023, 1), 1);
        Check.same("promise 4: the third", x.board(512, 1), 2);
        Check.same("promise 4: the fourth", x.board(5, 2), 3);
        Check.same("promise 4: full", x.board(5, 2), -4);
        Check.same("promise 4: BAD ahead of FULL", x.board(0, 2), -2);
        Check.same("promise 4: count", x.count(2), 4);
    }

    private static void meetings() {
        SenateRoll x = new SenateRoll();
        Check.same("promise 5: no board", x.meeting(0, 1, 1, 1), -2);
        x.board(3, 1);
        Check.same("promise 5: board 1", x.meeting(1, 1, 1, 1), -2);
        Check.same("promise 5: board -1", x.meeting(-1, 1, 1, 1), -2);
        Check.same("promise 5: day -1", x.meeting(0, -1, 1, 1), -2);
        Check.same("promise 5: day 10000", x.meeting(0, 10000, 1, 1), -2);
        Check.same("promise 5: called -1", x.meeting(0, 1, -1, 1), -2);
        Check.same("promise 5: called 1024", x.meeting(0, 1, 1024, 1), -2);
        Check.same("promise 5: sat -1", x.meeting(0, 1, 1, -1), -2);
        Check.same("promise 5: sat 1024", x.meeting(0, 1, 1, 1024), -2);
        for (int i = 0; i < 40; i++) {
            Check.same("promise 5: the next", x.meeting(0, i == 0 ? 0 : 9999, i, 1023 - i), i);
        }
        Check.same("promise 5: full", x.meeting(0, 1, 1, 1), -4);
        Check.same("promise 5: BAD ahead of FULL", x.meeting(0, 1, 1, MAX), -2);
        Check.same("promise 5: count", x.count(3), 40);
    }

    private static void tearing() {
        SenateRoll x = new SenateRoll();
        x.board(1, 1);
        x.meeting(0, 5, 1, 1);
        Check.same("promise 6: no meeting", x.tear(1, true), -2);
        Check.same("promise 6: meeting -1", x.tear(-1, false), -2);
        Check.same("promise 6: not void already", x.tear(0, false), -3);
        Check.same("promise 6: void", x.tear(0, true), 1);
        Check.same("promise 6: it does not stand", x.stands(0), 0);
        Check.same("promise 6: void already", x.tear(0, true), -3);
        Check.same("promise 6: not void again", x.tear(0, false), 1);
        Check.same("promise 6: it stands again", x.stands(0), 1);
    }

    private static void standing() {
        SenateRoll x = new SenateRoll();
        x.board(7, 2);
        x.board(1, 2);
        Check.same("promise 7: no meeting", x.stands(0), -2);
        x.meeting(0, 5, 7, 3);
        x.meeting(0, 5, 7, 1);
        x.meeting(0, 5, 3, 7);
        x.meeting(0, 5, 7, 1016 + 1);
        x.meeting(0, 5, 1016 + 7, 1016 + 6);
        x.meeting(1, 5, 1023, 1023);
        int[] due = {1, 0, 0, 0, 1, 0};
        for (int i = 0; i < due.length; i++) {
            Check.same("promise 7: stands(" + i + ")", x.stands(i), due[i]);
        }
        Check.same("promise 7: stands(-1)", x.stands(-1), -2);
        Check.same("promise 7: stands(6)", x.stands(6), -2);
        Check.same("promise 46: standing meetings", x.count(7), 2);
    }
}
