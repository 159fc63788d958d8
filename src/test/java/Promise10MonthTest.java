/** Promise 10, month: no river, the last month, and the limits of what a lesson and a third month do. */
public final class Promise10MonthTest extends Cases {
    private static final int WILD = 2;

    public static void main(String[] args) {
        runAll(Promise10MonthTest.class);
    }

    private static int wildAfter(String text, int months, int reach) {
        return months(river(text), months).reach(reach, WILD);
    }

    @Says("STATE: no RIVER")
    @Broken(in = "int month(", from = "return STATE;", to = "return UNKNOWN;")
    static void withoutARiverItIsRefused(Due due) {
        due.is("month()", none().month(), STATE);
    }

    @Says("they change nothing")
    @Broken(in = "int month(", from = "return STATE;", to = "now.monthNumber++; return STATE;")
    static void aRefusedMonthDoesNotGoBy(Due due) {
        RiverLessons x = none();
        changesNothing(due, x, x::month);
        due.is("months", x.count(6), 0);
    }

    /** It takes more than 512 calls to come there, behind which answers are free: this one is kept all the same. */
    @Says("FULL: 999 did.")
    @Broken(in = "class RiverLessons ", from = "MOST_MONTHS = 999", to = "MOST_MONTHS = 998")
    @Broken(in = "class RiverLessons ", from = "MOST_MONTHS = 999", to = "MOST_MONTHS = 1000")
    static void behind999ItIsFull(Due due) {
        RiverLessons x = months(river(SMALL), 998);
        due.is("month 999", x.month(), 999);
        due.is("month 1000", x.month(), FULL);
        changesNothing(due, x, x::month);
    }

    @Says("which it is")
    @Broken(in = "int month(", from = "return now.monthNumber;", to = "return now.monthNumber - 1;")
    static void theFirstIsMonthOne(Due due) {
        due.is("month()", river(SMALL).month(), 1);
    }

    @Says("what follows goes by its new number")
    @Broken(in = "void passMonth(", from = "monthNumber, Integer", to = "monthNumber - 1, Integer")
    static void lessonsGoByTheNewNumber(Due due) {
        due.is("a brook behind month 1", wildAfter("b15-,r10-;0", 1, 0), 5);
        due.is("a brook behind month 2", wildAfter("b15-,r10-;0", 2, 0), 4);
    }

    @Says("it is 1 less WILD (0 at least)")
    @Broken(in = "int wildAfter(", from = "Math.max(wild - lessons, 0)", to = "wild - lessons")
    static void noneIsLessWildThanZero(Due due) {
        due.is("a lesson at 0", wildAfter("r10-,r10-;0", 1, 0), 0);
        due.is("three lessons at 2", wildAfter("r12-,r10-;0,0,0", 1, 0), 0);
        due.is("three lessons of a brook at 1", wildAfter("b11-,r10-;0,0,0", 2, 0), 0);
    }

    @Says("it is 1 less WILD (0 at least)")
    @Broken(in = "int wildAfter(", from = "Math.max(wild - lessons, 0)", to = "Math.max(wild - lessons, 1)")
    @Broken(in = "int wildAfter(", from = "wild - lessons", to = "wild - 1")
    static void zeroIsReached(Due due) {
        due.is("a lesson at 1", wildAfter("r11-,r10-;0", 1, 0), 0);
        due.is("three lessons at 3", wildAfter("r13-,r10-;0,0,0", 1, 0), 0);
        due.is("three lessons at 4", wildAfter("r14-,r10-;0,0,0", 1, 0), 1);
    }

    @Says("a BROOK (a POND, too) just if the MONTH is even")
    @Broken(in = "int wildAfter(", from = "month % 2 == 0", to = "month % 2 >= 0")
    static void brooksAndPondsLearnNothingInOddMonths(Due due) {
        due.is("a brook", wildAfter("b15-,r10-;0", 1, 0), 5);
        due.is("a pond", wildAfter("p15-,r10-;0", 1, 0), 5);
    }

    @Says("a BROOK (a POND, too) just if the MONTH is even")
    @Broken(in = "int wildAfter(", from = "month % 2 == 0", to = "month % 4 == 0")
    static void brooksAndPondsLearnInEvenMonths(Due due) {
        due.is("a brook", wildAfter("b15-,r10-;0", 2, 0), 4);
        due.is("a pond", wildAfter("p15-,r10-;0", 2, 0), 4);
        due.is("a pond, by month 4", wildAfter("p15-,r10-;0", 4, 0), 3);
    }

    @Says("If 3 divides the MONTH, each REACH at which there is no GOVERNESS is 1 more WILD")
    @Broken(in = "int wildAfter(", from = "month % 3 == 0", to = "month % 3 >= 0")
    static void inOtherMonthsNoneIsWilder(Due due) {
        due.is("behind month 1", wildAfter("r10-,r15-;0", 1, 1), 5);
        due.is("behind month 2", wildAfter("r10-,r15-;0", 2, 1), 5);
        due.is("behind month 5", wildAfter("r10-,r15-;0", 5, 1), 6);
    }

    @Says("If 3 divides the MONTH, each REACH at which there is no GOVERNESS is 1 more WILD")
    @Broken(in = "int wildAfter(", from = "month % 3 == 0", to = "month % 6 == 0")
    static void inEachThirdMonthItIsWilder(Due due) {
        due.is("behind month 3", wildAfter("r10-,r15-;0", 3, 1), 6);
        due.is("behind month 6", wildAfter("r10-,r15-;0", 6, 1), 7);
    }

    @Says("is 1 more WILD (9 at most)")
    @Broken(in = "int wildAfter(", from = "Math.min(wild + 1, MOST_WILD)", to = "wild + 1")
    static void noneIsWilderThanNine(Due due) {
        due.is("9 in month 3", wildAfter("r10-,r19-;0", 3, 1), 9);
    }

    @Says("is 1 more WILD (9 at most)")
    @Broken(in = "int wildAfter(", from = "Math.min(wild + 1, MOST_WILD)", to = "Math.min(wild + 1, MOST_WILD - 1)")
    static void nineIsReached(Due due) {
        due.is("8 in month 3", wildAfter("r10-,r18-;0", 3, 1), 9);
    }

    @Says("each REACH at which there is no GOVERNESS")
    @Broken(in = "int wildAfter(", from = ": wild;\n    }", to = ": month % 3 == 0 ? wild + 1 : wild;\n    }")
    static void whereThereIsAGovernessItIsNotWilder(Due due) {
        due.is("a brook, in month 3 without a lesson to it", wildAfter("b15-,r10-;0", 3, 0), 4);
    }
}
