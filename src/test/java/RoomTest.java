import java.lang.management.ManagementFactory;

/** All calls of a run live in one room of some 7.3 million fields and elements: an object and its calls take little of it. */
public final class RoomTest {
    private static final int ROUNDS = 8;
    private static final long ROOM = 7300000L * 4;
    private static final com.sun.management.ThreadMXBean THREADS =
        (com.sun.management.ThreadMXBean) ManagementFactory.getThreadMXBean();

    private RoomTest() {
    }

    public static void main(String[] args) {
        everyCall(new SenateRoll());
        long before = made();
        SenateRoll x = new SenateRoll();
        long madeByObject = made() - before;
        Check.same("an object takes a tenth of the room at most, it took " + madeByObject, madeByObject < ROOM / 10 ? 1 : 0, 1);
        before = made();
        for (int i = 0; i < ROUNDS; i++) {
            everyCall(x);
        }
        long madeByCalls = made() - before;
        Check.same("512 calls take a tenth of it at most, they took " + madeByCalls, madeByCalls < ROOM / 10 ? 1 : 0, 1);
        Check.end("RoomTest");
    }

    private static long made() {
        return THREADS.getThreadAllocatedBytes(Thread.currentThread().getId());
    }

    private static void everyCall(SenateRoll x) {
        x.image(0);
        x.course(10, 0, 3, 40);
        x.course(10, 0, 7, 40);
        x.course(10, x.count(0) > 1 ? 2 : 0, 7, 40);
        x.student(0);
        x.board(1, 1);
        x.meeting(0, 10, 1, 1);
        x.tear(0, true);
        x.tear(0, false);
        x.stands(0);
        int mark = x.mark(0, 0, 70, 0, 1, 1);
        x.second(mark, 60, 1, 1, 1);
        x.moderate(mark, 80, 0, 10);
        x.scale(0, 11, 10, 1, 0, 10);
        x.excuse(0, 0, 0, 10);
        x.strike(mark, 0, 30);
        int degree = x.degree(0, 0, 10);
        x.appeal(degree, 20);
        x.days(30);
        x.about(mark, 0);
        x.counts(mark, 20);
        x.step(mark, 4, 20);
        x.outcome(0, 0, 20, 0);
        x.passed(0, 20, 20);
        x.grade(0, 20, 20);
        x.number(0, 20, 20, 1);
        x.erase(0);
        x.write(0, 'm');
        x.write(0, 'e');
        x.write(0, 'a');
        x.write(0, 'n');
        x.fault(0);
        x.tells(0, 0, -1, 20, 20);
        x.choose(0, x.ordain(0, 0, 0, false));
        x.edge(0, 20, 20);
        x.roll(0, 20, 19);
        x.hangs(0, 20, 20);
        x.binds(0, 20);
        x.way(0, 7, 0, 1, 20, 20);
        x.wayAt(0, 7, 0, 1, 20, 20, 0);
        x.sits(0, 0, true);
        x.sits(0, 0, false);
        x.hours(7, 2);
        x.hourOf(7, 2, 0);
        x.habit(0, 20, 3);
        x.odds(20);
        x.line(1, 2);
        x.doubt(2, 0);
        x.clear();
        x.count(7);
        x.digest();
        x.from(0);
    }
}
