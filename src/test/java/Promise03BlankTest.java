/** Promise 3, blank: a page that is empty, or full. */
public final class Promise03BlankTest extends Cases {
    public static void main(String[] args) {
        runAll(Promise03BlankTest.class);
    }

    @Says("how many letters it had")
    @Broken(in = "int blank(", from = "return had;", to = "return Math.max(had, 1);")
    static void anEmptyPageHadNone(Due due) {
        RiverLessons x = none();
        due.is("blank()", x.blank(), 0);
        due.is("blank() again", x.blank(), 0);
    }

    @Says("how many letters it had")
    @Broken(in = "int blank(", from = "return had;", to = "return Math.min(had, 41);")
    static void aFullPageHad42(Due due) {
        due.is("blank()", typed("r".repeat(50)).blank(), 42);
    }

    @Says("THE PAGE is empty")
    @Broken(in = "int blank(", from = "page.size = 0;", to = "page.size = Math.min(page.size, 1);")
    static void thePageIsEmptyThen(Due due) {
        RiverLessons x = typed("r10-");
        x.blank();
        due.is("letters", x.count(9), 0);
        due.is("the next letter", x.letter('r'), 1);
    }

    @Says("THE PAGE is empty")
    @Broken(in = "int blank(", from = "page.size = 0;", to = "page.size = page.size >= PAGE_LETTERS ? page.size : 0;")
    static void aFullPageHasRoomAgain(Due due) {
        RiverLessons x = typed("z".repeat(42));
        x.blank();
        for (int size = 1; size <= 42; size++) {
            due.is("letter " + size, x.letter('r'), size);
        }
    }
}
