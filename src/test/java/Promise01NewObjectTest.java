/** Promise 1, a new object: what there is ahead of the first river, and how long an object is used. */
public final class Promise01NewObjectTest extends Cases {
    public static void main(String[] args) {
        runAll(Promise01NewObjectTest.class);
    }

    @Says("No RIVER.")
    @Broken(in = "class River ", from = "int reaches = 0;", to = "int reaches = 2;")
    static void thereIsNoReach(Due due) {
        due.is("reaches", none().count(0), 0);
        due.is("reach(0, 0)", none().reach(0, 0), UNKNOWN);
        due.is("month()", none().month(), STATE);
    }

    @Says("No RIVER.")
    @Broken(in = "class River ", from = "int governesses = 0;", to = "int governesses = 1;")
    static void thereIsNoGoverness(Due due) {
        due.is("governesses", none().count(1), 0);
        due.is("governess(0)", none().governess(0), UNKNOWN);
    }

    @Says("At first there is none; then it is MONTH 0.")
    @Broken(in = "class River ", from = "int monthNumber = 0;", to = "int monthNumber = 1;")
    static void noMonthHasGoneBy(Due due) {
        due.is("months", none().count(6), 0);
    }

    @Says("No RIVER.")
    @Broken(in = "public RiverLessons() {", from = "timesRead = 0;", to = "timesRead = 1;")
    static void noneWasRead(Due due) {
        due.is("rivers read", none().count(10), 0);
    }

    @Says("No RIVER.")
    @Broken(in = "class Page ", from = "int size = 0;", to = "int size = 1;")
    static void thePageIsEmpty(Due due) {
        due.is("letters", none().count(9), 0);
        due.is("the first letter", none().letter('r'), 1);
    }

    @Says("No RIVER.")
    @Broken(in = "class Seen ", from = "int size = 0;", to = "int size = 1;")
    static void nothingIsSeen(Due due) {
        due.is("seen", none().count(8), 0);
    }

    @Says("An object is used for at most 512 calls after it has been made")
    @Broken(in = "class RiverLessons ", from = "MOST_MONTHS = 999", to = "MOST_MONTHS = 499")
    static void the512thCallIsStillAnswered(Due due) {
        RiverLessons x = river(SMALL);
        int calls = SMALL.length() + 1;
        int months = 512 - calls;
        months(x, months - 1);
        due.is("call 512, the month " + months, x.month(), months);
    }
}
