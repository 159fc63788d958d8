import java.lang.management.ManagementFactory;

/** The room: an object is small, and no call makes anything, however dear. */
public final class RoomTest {
    private static final Due due = new Due();
    private static final com.sun.management.ThreadMXBean BEAN =
        (com.sun.management.ThreadMXBean) ManagementFactory.getThreadMXBean();

    private static long made() {
        return BEAN.getCurrentThreadAllocatedBytes();
    }

    public static void main(String[] args) {
        new RiverLessons();
        long before = made();
        RiverLessons x = new RiverLessons();
        due.holds("an object has less than 16000 bytes", made() - before < 16000);
        Due.typed(x, "r90-,m990,w900,p900,b90-,r994,r90-;0,1,2");
        x.river();
        everyCall(x);
        before = made();
        long sum = 0;
        for (int i = 0; i < 100; i++) {
            sum += everyCall(x);
        }
        long bytes = made() - before;
        due.holds("calls make nothing: " + bytes + " bytes, told " + sum, bytes < 1000);
        months();
        due.end();
    }

    private static long everyCall(RiverLessons x) {
        long sum = x.letter('r') + x.fault() + x.blank() + x.send(0, 1) + x.month() + x.rain(0, 9) + x.make(1, 2) + x.spoil(2, 3);
        for (int what = 0; what <= 12; what++) {
            sum += x.reach(1, what) + x.count(what);
        }
        sum += x.as(1, 1) + x.governess(0) + x.plan(0, 4, 0) + x.place(1) + x.weirs(1) + x.odds(0, 1);
        sum += x.see(0, 3, true) + x.forget() + x.years(60, 7, 0) + x.image() + x.restore() + x.digest() + x.river();
        return sum;
    }

    /** Beyond 512 calls answers are free, but none may fail; the month is refused behind 999. */
    private static void months() {
        RiverLessons x = Due.river("r90-,b990;0,1,1");
        for (int month = 1; month <= 999; month++) {
            due.is("month " + month, x.month(), month);
        }
        due.is("month 1000", x.month(), RiverLessons.FULL);
        due.is("months", x.count(6), 999);
        due.is("lessons", x.count(7), 2997);
        due.holds("a plan beyond has an answer", x.plan(0, 4, 0) >= 0 && x.years(60, 0, 0) >= 0 && x.place(0) == RiverLessons.NONE);
    }
}
