/** Promise 23, count: questions that there are not, no river, as much as there can be. */
public final class Promise23CountTest extends Cases {
    public static void main(String[] args) {
        runAll(Promise23CountTest.class);
    }

    @Says("how often a RIVER was read. OUTSIDE.")
    @Broken(in = "int count(", from = "case 0:", to = "case -1: case 0:")
    static void questionsBelowZeroAreOutside(Due due) {
        each(due, "count", OUTSIDE, river(SMALL)::count, -1, LOW);
        each(due, "count without a river", OUTSIDE, none()::count, -1, LOW);
    }

    @Says("how often a RIVER was read. OUTSIDE.")
    @Broken(in = "int count(", from = "case 10:", to = "case 11: case 10:")
    @Broken(in = "int count(", from = "default: return OUTSIDE;", to = "default: return UNKNOWN;")
    static void questionsAboveTenAreOutside(Due due) {
        each(due, "count", OUTSIDE, river(SMALL)::count, 11, 12, HIGH);
        each(due, "count without a river", OUTSIDE, none()::count, 11, 12, HIGH);
    }

    @Says("how often a RIVER was read. OUTSIDE.")
    @Broken(in = "int count(", from = "switch (what) {", to = "switch (hasRiver() ? what : -1) {")
    static void withoutARiverAllAreZero(Due due) {
        each(due, "count", 0, none()::count, 0, 1, 2, 3, 4, 5, 6, 7, 8, 9, 10);
    }

    @Says("2 all FLOWS, 3 how WILD all are together, 4 REACHES that FLOOD, 5 what RUNS OUT into the sea")
    @Broken(in = "int flowTogether(", from = "r < reaches", to = "r < reaches - 1")
    @Broken(in = "int wildTogether(", from = "r < reaches", to = "r < reaches - 1")
    @Broken(in = "int floodCount(", from = "r < reaches", to = "r < reaches - 1")
    @Broken(in = "int runsIntoSea(", from = "r < reaches", to = "r < reaches - 1")
    static void asMuchAsThereCanBe(Due due) {
        RiverLessons apart = river("m99-,m99-,m99-,m99-,m99-,m99-,m99-;0,0,0");
        due.is("reaches", apart.count(0), 7);
        due.is("governesses", apart.count(1), 3);
        due.is("flows", apart.count(2), 63);
        due.is("wild", apart.count(3), 63);
        due.is("floods", apart.count(4), 7);
        due.is("into the sea", apart.count(5), 63);
        due.is("into the sea, by one", river("r90-,r900,r900,r900,r900,r900,r900;0").count(5), 63);
    }

    @Says("5 what RUNS OUT into the sea")
    @Broken(in = "int runsIntoSea(", from = "sum += runsOut(r);", to = "sum += water[r];")
    static void aWeirOrAPondAtTheSeaLetsOutLess(Due due) {
        due.is("a weir with 18", river("w90-,r900;0").count(5), 9);
        due.is("a pond with 17", river("p80-,r900;0").count(5), 8);
    }

    @Says("7 LESSONS that were given (whether the REACH learned by them or not)")
    @Broken(in = "void passMonth(", from = "lessons += governesses;", to = "lessons += wild[at[0]] > 0 ? governesses : 0;")
    static void aLessonAtZeroIsCounted(Due due) {
        due.is("lessons", months(river(SMALL), 2).count(7), 2);
    }

    @Says("7 LESSONS that were given (whether the REACH learned by them or not)")
    @Broken(in = "void passMonth(", from = "lessons += governesses;", to = "lessons += isBrook(kind[at[0]]) ? governesses * (1 - monthNumber % 2) : governesses;")
    static void aLessonToABrookInAnOddMonthIsCounted(Due due) {
        due.is("lessons", months(river("b15-,r10-;0,0,0"), 1).count(7), 3);
    }

    @Says("9 letters of THE PAGE")
    @Broken(in = "int count(", from = "return page.size;", to = "return Math.min(page.size, 40);")
    static void aFullPageHas42(Due due) {
        due.is("letters", typed("z".repeat(50)).count(9), 42);
    }

    @Says("10 how often a RIVER was read")
    @Broken(in = "int river(", from = "timesRead++;", to = "timesRead = 1;")
    static void everyRiverIsCounted(Due due) {
        RiverLessons x = none();
        for (int times = 1; times <= 40; times++) {
            Due.typed(x, SMALL);
            x.river();
            due.is("rivers read", x.count(10), times);
        }
    }
}
