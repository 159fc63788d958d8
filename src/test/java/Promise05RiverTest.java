/** Promise 5, river: what is none, what is gone with another, and that a refused one changes nothing. */
public final class Promise05RiverTest extends Cases {
    public static void main(String[] args) {
        runAll(Promise05RiverTest.class);
    }

    private static void noRiver(Due due, String... pages) {
        for (String page : pages) {
            due.is("river() of " + page, typed(page).river(), STATE);
        }
    }

    /** A river of seven reaches, with a month, lessons, something seen and an image; then another is read. */
    private static RiverLessons another() {
        RiverLessons x = months(river(LONG), 1);
        x.see(0, 0, true);
        x.image();
        Due.typed(x, SMALL);
        x.river();
        return x;
    }

    /** The same ahead of the other, which is not whole. */
    private static RiverLessons refused() {
        RiverLessons x = months(river(LONG), 1);
        x.see(0, 0, true);
        x.image();
        return Due.typed(x, "r10-,r10-;");
    }

    @Says("STATE: it is none.")
    @Broken(in = "int river(", from = "if (told == 0)", to = "if (told == 0 && page.size > 0)")
    static void anEmptyPageIsNone(Due due) {
        noRiver(due, "");
    }

    @Says("STATE: it is none.")
    @Broken(in = "int semicolonPlace(", from = "return NONE;", to = "return size;")
    static void reachesAloneAreNone(Due due) {
        noRiver(due, "r10-,r10-", LONG.substring(0, 34));
    }

    @Says("STATE: it is none.")
    @Broken(in = "int semicolonPlace(", from = "place < size", to = "place <= size")
    static void lettersThatAreGoneMakeNoRiver(Due due) {
        RiverLessons x = typed(SMALL);
        x.blank();
        due.is("river() of reaches, where a river stood", Due.typed(x, "r10-,r10-").river(), STATE);
    }

    @Says("STATE: it is none.")
    @Broken(in = "int semicolonPlace(", from = "place < size", to = "place <= size")
    static void aFullPageIsNone(Due due) {
        noRiver(due, "r".repeat(42), LONG + ",0", LONG + "zz");
    }

    @Says("STATE: it is none.")
    @Broken(in = "int reachesTold(", from = "(size - semicolon) % 2 == 0", to = "size - semicolon != 3")
    static void withoutAGovernessItIsNone(Due due) {
        noRiver(due, "r10-,r10-;", LONG.substring(0, 35));
    }

    @Says("STATE: it is none.")
    @Broken(in = "int reachesTold(", from = "(size - semicolon) % 2 == 0", to = "size - semicolon >= 2")
    static void thatAnotherGovernessIsToComeIsNone(Due due) {
        noRiver(due, SMALL + ",", SMALL + ",0,");
    }

    @Says("STATE: it is none.")
    @Broken(in = "int reachesTold(", from = "firstFault() < size", to = "firstFault() < 0")
    static void oneWithAFaultIsNone(Due due) {
        noRiver(due, "r00-,r10-;0", "r10-,r101;0", "x10-,r10-;0", "r10-,r10-;2", "r1a-,r10-;0");
    }

    @Says("two to seven REACHES")
    @Broken(in = "class RiverLessons ", from = "LEAST_REACHES = 2", to = "LEAST_REACHES = 1")
    static void oneReachIsTooFew(Due due) {
        noRiver(due, "r10-;0");
    }

    @Says("how many REACHES")
    @Broken(in = "class RiverLessons ", from = "LEAST_REACHES = 2", to = "LEAST_REACHES = 3")
    static void twoReachesAreEnough(Due due) {
        due.is("river()", typed(SMALL).river(), 2);
    }

    @Says("how many REACHES")
    @Broken(in = "class RiverLessons ", from = "MOST_REACHES = 7", to = "MOST_REACHES = 6")
    static void thereMayBeSevenReaches(Due due) {
        due.is("river()", typed(LONG).river(), 7);
    }

    @Says("two to seven REACHES")
    @Broken(in = "class RiverLessons ", from = "MOST_REACHES = 7", to = "MOST_REACHES = 8")
    static void eightReachesAreTooMany(Due due) {
        noRiver(due, "r10-,r10-,r10-,r10-,r10-,r10-,r10-,r10-;0");
    }

    @Says("one to three GOVERNESSES")
    @Broken(in = "class RiverLessons ", from = "MOST_GOVERNESSES = 3", to = "MOST_GOVERNESSES = 2")
    static void thereMayBeThreeGovernesses(Due due) {
        due.is("river()", typed(SMALL + ",0,1").river(), 2);
        due.is("governesses", river(SMALL + ",0,1").count(1), 3);
    }

    @Says("one to three GOVERNESSES")
    @Broken(in = "class RiverLessons ", from = "MOST_GOVERNESSES = 3", to = "MOST_GOVERNESSES = 4")
    static void fourGovernessesAreTooMany(Due due) {
        noRiver(due, SMALL + ",0,1,0");
    }

    @Says("STATE: it is none.")
    @Broken(in = "int reachesTold(", from = "firstFault() < size", to = "firstFault() < size - 2")
    static void lettersBehindAWholeOneMakeItNone(Due due) {
        noRiver(due, LONG + "zz", LONG + ",", SMALL + ";0", SMALL + "0");
    }

    @Says("THE PAGE is empty then")
    @Broken(in = "int river(", from = "page.size = 0;", to = "")
    static void thePageIsEmptyThen(Due due) {
        RiverLessons x = river(SMALL);
        due.is("letters", x.count(9), 0);
        due.is("river() again", x.river(), STATE);
    }

    @Says("At first there is none; then it is MONTH 0.")
    @Broken(in = "void readFrom(", from = "monthNumber = 0;", to = "")
    static void itIsMonthZeroThen(Due due) {
        RiverLessons x = another();
        due.is("months", x.count(6), 0);
        due.is("the next", x.month(), 1);
    }

    @Says("another one is gone, with all that was")
    @Broken(in = "void readFrom(", from = "reaches = Math.min(told, MOST_REACHES);", to = "reaches = Math.max(told, reaches);")
    static void itsReachesAreGone(Due due) {
        RiverLessons x = another();
        due.is("reaches", x.count(0), 2);
        due.is("reach(2, 0)", x.reach(2, 0), UNKNOWN);
    }

    @Says("another one is gone, with all that was")
    @Broken(in = "void readFrom(", from = "Math.min((page.size - first + 1) / 2, MOST_GOVERNESSES)",
        to = "Math.max((page.size - first + 1) / 2, governesses)")
    static void itsGovernessesAreGone(Due due) {
        RiverLessons x = another();
        due.is("governesses", x.count(1), 1);
        due.is("governess(1)", x.governess(1), UNKNOWN);
    }

    @Says("another one is gone, with all that was")
    @Broken(in = "void readFrom(", from = "lessons = 0;", to = "")
    static void itsLessonsAreGone(Due due) {
        due.is("lessons", another().count(7), 0);
    }

    @Says("another one is gone, with all that was")
    @Broken(in = "int river(", from = "seen.size = 0;", to = "")
    static void whatWasSeenIsGone(Due due) {
        due.is("seen", another().count(8), 0);
        due.is("wilds", another().reach(0, 8), 1023);
    }

    @Says("another one is gone, with all that was")
    @Broken(in = "int river(", from = "imageKept = false;", to = "")
    static void itsImageIsGone(Due due) {
        due.is("restore()", another().restore(), STATE);
    }

    @Says("they change nothing")
    @Broken(in = "int river(", from = "return STATE;", to = "page.size = 0; return STATE;")
    static void aRefusedPageStays(Due due) {
        RiverLessons x = refused();
        changesNothing(due, x, x::river);
        due.is("letters", x.count(9), 10);
        x.letter('1');
        due.is("the page goes on", x.river(), 2);
    }

    @Says("they change nothing")
    @Broken(in = "int river(", from = "return STATE;", to = "now.readFrom(page, 2); return STATE;")
    static void theRiverStaysBehindARefusedOne(Due due) {
        RiverLessons x = refused();
        x.river();
        due.is("reaches", x.count(0), 7);
        due.is("months", x.count(6), 1);
        due.is("seen", x.count(8), 1);
    }

    @Says("they change nothing")
    @Broken(in = "int river(", from = "return STATE;", to = "imageKept = false; return STATE;")
    static void theImageStaysBehindARefusedOne(Due due) {
        RiverLessons x = refused();
        x.river();
        due.is("restore()", x.restore(), 1);
    }

    @Says("they change nothing")
    @Broken(in = "int river(", from = "return STATE;", to = "timesRead++; return STATE;")
    static void aRefusedOneIsNotCounted(Due due) {
        RiverLessons x = refused();
        x.river();
        due.is("rivers read", x.count(10), 1);
    }
}
