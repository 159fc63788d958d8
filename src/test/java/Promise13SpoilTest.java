/** Promise 13, spoil: wild from 0 to 9. */
public final class Promise13SpoilTest extends Cases {
    public static void main(String[] args) {
        runAll(Promise13SpoilTest.class);
    }

    @Says("OUTSIDE: wild (0 to 9)")
    @Broken(in = "int spoil(", from = "wild < 0", to = "wild < -1")
    static void wildBelowZeroIsOutside(Due due) {
        each(due, "spoil(0, ..)", OUTSIDE, wild -> river(SMALL).spoil(0, wild), -1, LOW);
    }

    @Says("OUTSIDE: wild (0 to 9)")
    @Broken(in = "int spoil(", from = "wild < 0", to = "wild < 1")
    static void zeroIsTheLeast(Due due) {
        RiverLessons x = river("r15-,r10-;0");
        due.is("spoil(0, 0)", x.spoil(0, 0), 5);
        due.is("wild", x.reach(0, 2), 0);
    }

    @Says("OUTSIDE: wild (0 to 9)")
    @Broken(in = "int spoil(", from = "wild > MOST_WILD", to = "wild >= MOST_WILD")
    static void nineIsTheGreatest(Due due) {
        RiverLessons x = river(SMALL);
        due.is("spoil(0, 9)", x.spoil(0, 9), 0);
        due.is("wild", x.reach(0, 2), 9);
    }

    @Says("OUTSIDE: wild (0 to 9)")
    @Broken(in = "int spoil(", from = "wild > MOST_WILD", to = "wild > MOST_WILD + 1")
    static void wildAboveNineIsOutside(Due due) {
        each(due, "spoil(0, ..)", OUTSIDE, wild -> river(SMALL).spoil(0, wild), 10, 11, HIGH);
    }

    @Says("how WILD it was. UNKNOWN")
    @Broken(in = "int spoil(", from = "!now.hasReach(reach)", to = "reach > 1 || !hasRiver()")
    @Broken(in = "int spoil(", from = "!now.hasReach(reach)", to = "reach < 0 || !hasRiver()")
    static void reachesThatThereAreNotAreUnknown(Due due) {
        each(due, "spoil", UNKNOWN, r -> river(SMALL).spoil(r, 1), -1, 2, 7, LOW, HIGH);
    }

    @Says("UNKNOWN (a number names nothing)")
    @Broken(in = "int spoil(", from = "return UNKNOWN;", to = "return hasRiver() ? UNKNOWN : STATE;")
    static void withoutARiverAllAreUnknown(Due due) {
        due.is("spoil(0, 1)", none().spoil(0, 1), UNKNOWN);
    }

    @Says("of several the first as told by each call")
    @Broken(in = "int spoil(", from = "!now.hasReach(reach)", to = "wild >= 0 && wild <= 9 && !now.hasReach(reach)")
    static void unknownIsToldAheadOfOutside(Due due) {
        due.is("spoil(2, 10)", river(SMALL).spoil(2, 10), UNKNOWN);
        due.is("spoil(-1, -1)", river(SMALL).spoil(-1, -1), UNKNOWN);
    }

    @Says("they change nothing")
    @Broken(in = "int spoil(", from = "return OUTSIDE;", to = "now.wild[reach] = MOST_WILD; return OUTSIDE;")
    @Broken(in = "int spoil(", from = "return UNKNOWN;", to = "now.wild[0] = wild; return UNKNOWN;")
    static void aRefusedOneSpoilsNothing(Due due) {
        RiverLessons x = river(SMALL);
        changesNothing(due, x, () -> x.spoil(0, 10));
        changesNothing(due, x, () -> x.spoil(2, 3));
    }
}
