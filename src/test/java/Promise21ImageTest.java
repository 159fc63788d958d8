/** Promise 21, image: without a river, in month 0, and the latest of several. */
public final class Promise21ImageTest extends Cases {
    public static void main(String[] args) {
        runAll(Promise21ImageTest.class);
    }

    @Says("STATE: no RIVER")
    @Broken(in = "int image(", from = "return STATE;", to = "return 0;")
    static void withoutARiverItIsRefused(Due due) {
        due.is("image()", none().image(), STATE);
    }

    @Says("they change nothing")
    @Broken(in = "int image(", from = "return STATE;", to = "imageKept = true; return STATE;")
    static void aRefusedOneIsNotKept(Due due) {
        RiverLessons x = none();
        changesNothing(due, x, x::image);
        due.is("restore()", x.restore(), STATE);
    }

    @Says("how many MONTHS there were")
    @Broken(in = "int image(", from = "return now.monthNumber;", to = "return Math.max(now.monthNumber, 1);")
    static void aheadOfTheFirstMonthThereWereNone(Due due) {
        due.is("image()", river(SMALL).image(), 0);
    }

    @Says("An IMAGE is kept (one; the latest)")
    @Broken(in = "int image(", from = "kept.copyFrom(now);", to = "if (!imageKept) { kept.copyFrom(now); }")
    static void theLatestIsKept(Due due) {
        RiverLessons x = river(SMALL);
        x.image();
        x.month();
        due.is("the second image()", x.image(), 1);
        x.month();
        due.is("restore()", x.restore(), 1);
    }

    @Says("An IMAGE is kept (one; the latest)")
    @Broken(in = "int restore(", from = "now.copyFrom(kept);", to = "now.copyFrom(kept); imageKept = false;")
    static void itIsKeptBehindARestore(Due due) {
        RiverLessons x = months(river(SMALL), 2);
        x.image();
        due.is("restore()", x.restore(), 2);
        x.month();
        due.is("restore() again", x.restore(), 2);
    }
}
