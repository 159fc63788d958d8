/** Promise 15, place: fewer reaches than governesses, questions that there are not, no river. */
public final class Promise15PlaceTest extends Cases {
    public static void main(String[] args) {
        runAll(Promise15PlaceTest.class);
    }

    @Says("each at another REACH (none, if there are fewer REACHES)")
    @Broken(in = "void tryFrom(", from = "search.apart && bits != 0", to = "search.apart && bits > 1")
    static void withFewerReachesThereIsNone(Due due) {
        each(due, "place", NONE, river("r15-,r15-;0,0,0")::place, 0, 1, 10, 11, 12);
    }

    @Says("each at another REACH (none, if there are fewer REACHES)")
    @Broken(in = "void findPlaces(", from = "steps = river.governesses;", to = "steps = river.governesses < reaches ? river.governesses : 3;")
    static void asManyReachesAreEnough(Due due) {
        RiverLessons two = river("r15-,r15-;0,0");
        due.is("wild of two", two.place(1), 8);
        due.is("the second of two", two.place(11), 1);
        RiverLessons three = river("r15-,r15-,r15-;0,0,0");
        due.is("wild of three", three.place(1), 12);
        due.is("the third of three", three.place(12), 2);
    }

    @Says("(NONE: there is none such)")
    @Broken(in = "int told(", from = "step < steps && ", to = "")
    @Broken(in = "int told(", from = "step < steps", to = "step <= steps")
    static void governessesThatThereAreNotAreNone(Due due) {
        RiverLessons one = river("r10-,r15-;0");
        one.plan(0, 4, 0);
        each(due, "place of one", NONE, one::place, 11, 12);
        RiverLessons two = river("r10-,r15-,r15-;0,0");
        two.plan(0, 4, 0);
        each(due, "place of two", NONE, two::place, 12);
    }

    @Says("10 to 12 at which REACH GOVERNESS 0 to 2 is")
    @Broken(in = "int place(", from = "isAsked(what, MOST_GOVERNESSES)", to = "isAsked(what, MOST_GOVERNESSES - 1)")
    @Broken(in = "void tryFrom(", from = "r < search.reaches", to = "r < search.reaches - 1")
    static void twelveIsTheThirdAndMayBeAtTheLast(Due due) {
        RiverLessons x = river("r10-,r10-,r10-,r10-,r15-,r15-,r15-;0,0,0");
        due.is("place(10)", x.place(10), 4);
        due.is("place(11)", x.place(11), 5);
        due.is("place(12)", x.place(12), 6);
    }

    @Says("NONE. OUTSIDE; STATE: no RIVER.")
    @Broken(in = "int place(", from = "isAsked(what, MOST_GOVERNESSES)", to = "isAsked(what, PLAN_MONTHS)")
    @Broken(in = "boolean isAsked(", from = "what == 0", to = "what <= 0")
    @Broken(in = "boolean isAsked(", from = "what == 1", to = "what == 1 || what == 2")
    @Broken(in = "boolean isAsked(", from = "what >= FIRST_PLACE_ASKED", to = "what >= FIRST_PLACE_ASKED - 1")
    static void otherQuestionsAreOutside(Due due) {
        each(due, "place", OUTSIDE, river(LONG)::place, -1, 2, 3, 9, 13, 14, LOW, HIGH);
    }

    @Says("STATE: no RIVER")
    @Broken(in = "int place(", from = "return STATE;", to = "return NONE;")
    static void withoutARiverItIsRefused(Due due) {
        each(due, "place", STATE, none()::place, 0, 1, 10, 11, 12);
    }

    @Says("of several the first as told by each call")
    @Broken(in = "int place(", from = "if (!Search", to = "if (hasRiver() && !Search")
    static void outsideIsToldAheadOfState(Due due) {
        each(due, "place without a river", OUTSIDE, none()::place, -1, 2, 9, 13);
    }

    @Says("of like ones the first by numbers")
    @Broken(in = "void keepIfBetter(", from = "total < best", to = "total <= best")
    static void ofLikePlacesTheFirst(Due due) {
        RiverLessons x = river("r15-,r15-,r15-,r15-;3,3,3");
        due.is("place(10)", x.place(10), 0);
        due.is("place(11)", x.place(11), 1);
        due.is("place(12)", x.place(12), 2);
    }

    /** In month 3 the second would be two less wild by her, the first only one, but it floods without her. */
    @Says("so that fewest FLOOD behind it; of these least WILD")
    @Broken(in = "void keepIfBetter(", from = "total < best", to = "total % FLOOD_WEIGHT < best % FLOOD_WEIGHT")
    static void fewestFloodsCountAheadOfLeastWild(Due due) {
        RiverLessons x = months(river("r39-,r930;1"), 2);
        x.spoil(1, 3);
        due.is("floods", x.place(0), 0);
        due.is("wild", x.place(1), 12);
        due.is("where", x.place(10), 0);
    }

    @Says("how many FLOOD; at which REACH each is")
    @Broken(in = "int scoreOf(", from = "FLOOD_WEIGHT + wild", to = "FLOOD_WEIGHT")
    static void allMayFloodWhereverTheyAre(Due due) {
        RiverLessons x = river("m99-,m99-,m99-,m99-,m99-,m99-,m99-;0,0,0");
        due.is("floods", x.place(0), 7);
        due.is("wild", x.place(1), 60);
    }

    @Says("If 3 divides the MONTH, each REACH at which there is no GOVERNESS is 1 more WILD")
    @Broken(in = "void findPlaces(", from = "river.monthNumber + 1", to = "river.monthNumber")
    static void itGoesByTheMonthToCome(Due due) {
        due.is("behind month 1", river(SMALL).place(1), 0);
        due.is("behind month 3", months(river(SMALL), 2).place(1), 1);
        due.is("a brook in month 1", river("b15-,r10-;0").place(1), 5);
        due.is("a brook in month 2", months(river("b15-,r10-;1"), 1).place(1), 4);
    }

    @Says("---- what would be.")
    @Broken(in = "int place(", from = "return search.told(what);", to = "now.passMonth(); return search.told(what);")
    static void nothingIsDone(Due due) {
        RiverLessons x = river(LONG);
        changesNothing(due, x, () -> x.place(0));
    }
}
