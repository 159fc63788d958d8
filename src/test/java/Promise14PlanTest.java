/** Promise 14, plan: one to four months, questions that there are not, and like plans. */
public final class Promise14PlanTest extends Cases {
    public static void main(String[] args) {
        runAll(Promise14PlanTest.class);
    }

    @Says("UNKNOWN: governess")
    @Broken(in = "int plan(", from = "!now.hasGoverness(governess)", to = "governess < 0 || !hasRiver()")
    @Broken(in = "int plan(", from = "!now.hasGoverness(governess)", to = "governess > 0 || !hasRiver()")
    static void governessesThatThereAreNotAreUnknown(Due due) {
        each(due, "plan", UNKNOWN, g -> river(SMALL).plan(g, 1, 0), -1, 1, 3, LOW, HIGH);
    }

    @Says("UNKNOWN (a number names nothing)")
    @Broken(in = "int plan(", from = "return UNKNOWN;", to = "return hasRiver() ? UNKNOWN : STATE;")
    static void withoutARiverAllAreUnknown(Due due) {
        due.is("plan(0, 1, 0)", none().plan(0, 1, 0), UNKNOWN);
    }

    @Says("OUTSIDE: months (1 to 4), what")
    @Broken(in = "int plan(", from = "months < 1", to = "months < 0")
    static void noMonthIsOutside(Due due) {
        each(due, "plan(0, .., 0)", OUTSIDE, months -> river(SMALL).plan(0, months, 0), 0, -1, LOW);
    }

    @Says("OUTSIDE: months (1 to 4), what")
    @Broken(in = "int plan(", from = "months < 1", to = "months < 2")
    static void oneMonthIsTheLeast(Due due) {
        due.is("plan(0, 1, 1)", river("r15-,r10-;1").plan(0, 1, 1), 4);
    }

    @Says("OUTSIDE: months (1 to 4), what")
    @Broken(in = "int plan(", from = "months > PLAN_MONTHS", to = "months >= PLAN_MONTHS")
    static void fourMonthsAreTheMost(Due due) {
        due.is("plan(0, 4, 1)", river("r15-,r19-;1").plan(0, 4, 1), 10);
    }

    @Says("OUTSIDE: months (1 to 4), what")
    @Broken(in = "int plan(", from = "months > PLAN_MONTHS", to = "months > PLAN_MONTHS + 1")
    static void fiveMonthsAreOutside(Due due) {
        each(due, "plan(0, .., 0)", OUTSIDE, months -> river(SMALL).plan(0, months, 0), 5, 6, HIGH);
    }

    @Says("OUTSIDE: months (1 to 4), what")
    @Broken(in = "boolean isAsked(", from = "what == 0", to = "what <= 0")
    @Broken(in = "boolean isAsked(", from = "what == 1", to = "what == 1 || what == 2")
    @Broken(in = "boolean isAsked(", from = "what >= FIRST_PLACE_ASKED", to = "what >= FIRST_PLACE_ASKED - 1")
    @Broken(in = "boolean isAsked(", from = "what < FIRST_PLACE_ASKED + places", to = "what <= FIRST_PLACE_ASKED + places")
    static void otherQuestionsAreOutside(Due due) {
        each(due, "plan(0, 4, ..)", OUTSIDE, what -> river(SMALL).plan(0, 4, what), -1, 2, 3, 9, 14, 15, LOW, HIGH);
    }

    @Says("10 to 13 at which REACH in the so-manieth MONTH")
    @Broken(in = "int plan(", from = "isAsked(what, PLAN_MONTHS)", to = "isAsked(what, PLAN_MONTHS - 1)")
    static void thirteenIsTheFourthMonth(Due due) {
        due.is("plan(0, 4, 13)", river(SMALL).plan(0, 4, 13), 1);
    }

    @Says("(NONE: there are not so many)")
    @Broken(in = "int told(", from = "step < steps && ", to = "")
    @Broken(in = "int told(", from = "step < steps", to = "step <= steps")
    static void monthsBehindTheLastAreNone(Due due) {
        RiverLessons x = river("r19-,r10-;1");
        x.plan(0, 4, 0);
        each(due, "plan(0, 1, ..)", NONE, what -> x.plan(0, 1, what), 11, 12, 13);
        each(due, "plan(0, 2, ..)", NONE, what -> x.plan(0, 2, what), 12, 13);
        each(due, "plan(0, 3, ..)", NONE, what -> x.plan(0, 3, what), 13);
    }

    @Says("of several the first as told by each call")
    @Broken(in = "int plan(", from = "!now.hasGoverness(governess)", to = "!now.hasGoverness(governess) && what == 0")
    @Broken(in = "int plan(", from = "!now.hasGoverness(governess)", to = "!now.hasGoverness(governess) && months == 1")
    static void unknownIsToldAheadOfOutside(Due due) {
        due.is("plan(1, 5, 0)", river(SMALL).plan(1, 5, 0), UNKNOWN);
        due.is("plan(1, 1, 2)", river(SMALL).plan(1, 1, 2), UNKNOWN);
        due.is("plan(0, 0, 2) without a river", none().plan(0, 0, 2), UNKNOWN);
    }

    @Says("of like ones the first by numbers")
    @Broken(in = "void keepIfBetter(", from = "total < best", to = "total <= best")
    static void ofLikePlansTheFirst(Due due) {
        RiverLessons x = river("r10-,r10-;1");
        int[] first = {0, 0, 0, 1};
        for (int i = 0; i < 4; i++) {
            due.is("plan(0, 4, 1" + i + ")", x.plan(0, 4, 10 + i), first[i]);
        }
    }

    /** In month 3 the second would be two less wild by her, the first only one, but it floods without her. */
    @Says("so that fewest FLOOD behind these; of these so that all are least WILD together")
    @Broken(in = "void keepIfBetter(", from = "total < best", to = "total % FLOOD_WEIGHT < best % FLOOD_WEIGHT")
    static void fewestFloodsCountAheadOfLeastWild(Due due) {
        RiverLessons x = months(river("r39-,r930;1"), 2);
        x.spoil(1, 3);
        due.is("floods", x.plan(0, 1, 0), 0);
        due.is("wild", x.plan(0, 1, 1), 12);
        due.is("where", x.plan(0, 1, 10), 0);
    }

    @Says("how many FLOOD; how WILD")
    @Broken(in = "int scoreOf(", from = "FLOOD_WEIGHT + wild", to = "FLOOD_WEIGHT")
    @Broken(in = "class RiverLessons ", from = "FLOOD_WEIGHT = 100", to = "FLOOD_WEIGHT = 60")
    static void allMayFloodWhateverIsPlanned(Due due) {
        RiverLessons x = river("m99-,m99-,m99-,m99-,m99-,m99-,m99-;0");
        due.is("floods", x.plan(0, 1, 0), 7);
        due.is("wild", x.plan(0, 1, 1), 62);
    }

    @Says("If 3 divides the MONTH, each REACH at which there is no GOVERNESS is 1 more WILD")
    @Broken(in = "int wildBehind(", from = "monthNumber + 1 + step", to = "monthNumber + step")
    @Broken(in = "int wildBehind(", from = "monthNumber + 1 + step", to = "monthNumber + 1 - step")
    @Broken(in = "int wildBehind(", from = "step < steps", to = "step <= steps")
    static void itGoesByTheMonthsToCome(Due due) {
        RiverLessons x = river(SMALL);
        due.is("behind month 2", x.plan(0, 2, 1), 0);
        due.is("behind month 3", x.plan(0, 3, 1), 1);
        due.is("behind month 4", x.plan(0, 4, 1), 0);
        months(x, 2);
        due.is("behind month 3, from 2 on", x.plan(0, 1, 1), 1);
    }

    @Says("the others stay")
    @Broken(in = "void findPlan(", from = "& ~(1 << governess)", to = "& 0")
    static void theOthersStayAndTeach(Due due) {
        RiverLessons x = river("r11-,r15-;0,0,0");
        due.is("where, since the first is taught", x.plan(2, 1, 10), 1);
        due.is("wild", x.plan(2, 1, 1), 4);
    }

    @Says("---- what would be.")
    @Broken(in = "int plan(", from = "return search.told(what);", to = "now.passMonth(); return search.told(what);")
    static void nothingIsDone(Due due) {
        RiverLessons x = river(LONG);
        changesNothing(due, x, () -> x.plan(0, 4, 0));
    }
}
