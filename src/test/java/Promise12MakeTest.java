/** Promise 12, make: kinds from 0 to 4. */
public final class Promise12MakeTest extends Cases {
    public static void main(String[] args) {
        runAll(Promise12MakeTest.class);
    }

    @Says("OUTSIDE: kind (0 to 4)")
    @Broken(in = "boolean isKind(", from = "kind >= 0", to = "kind >= -1")
    static void kindsBelowZeroAreOutside(Due due) {
        each(due, "make(0, ..)", OUTSIDE, kind -> river(SMALL).make(0, kind), -1, LOW);
    }

    @Says("OUTSIDE: kind (0 to 4)")
    @Broken(in = "boolean isKind(", from = "kind >= 0", to = "kind > 0")
    static void zeroIsTheLeast(Due due) {
        RiverLessons x = river("p10-,r10-;0");
        due.is("make(0, 0)", x.make(0, 0), 4);
        due.is("kind", x.reach(0, 0), 0);
    }

    @Says("OUTSIDE: kind (0 to 4)")
    @Broken(in = "boolean isKind(", from = "kind < KIND_LETTERS.length()", to = "kind < KIND_LETTERS.length() - 1")
    static void fourIsTheGreatest(Due due) {
        RiverLessons x = river(SMALL);
        due.is("make(0, 4)", x.make(0, 4), 0);
        due.is("kind", x.reach(0, 0), 4);
    }

    @Says("of a WEIR 9 at most; of a POND half, rounded down")
    @Broken(in = "int make(", from = "now.measure();", to = "")
    static void whatRunsOutGoesByTheNewKind(Due due) {
        RiverLessons x = river("r10-,r900,r901;0");
        x.make(1, 3);
        due.is("water below a weir with 18", x.reach(0, 4), 10);
        x.rain(1, 8);
        x.make(1, 4);
        due.is("water below a pond with 17", x.reach(0, 4), 9);
    }

    @Says("OUTSIDE: kind (0 to 4)")
    @Broken(in = "boolean isKind(", from = "kind < KIND", to = "kind <= KIND")
    static void kindsAboveFourAreOutside(Due due) {
        each(due, "make(0, ..)", OUTSIDE, kind -> river(SMALL).make(0, kind), 5, 6, HIGH);
    }

    @Says("of which KIND it was. UNKNOWN")
    @Broken(in = "int make(", from = "!now.hasReach(reach)", to = "reach > 1 || !hasRiver()")
    @Broken(in = "int make(", from = "!now.hasReach(reach)", to = "reach < 0 || !hasRiver()")
    static void reachesThatThereAreNotAreUnknown(Due due) {
        each(due, "make", UNKNOWN, r -> river(SMALL).make(r, 1), -1, 2, 7, LOW, HIGH);
    }

    @Says("UNKNOWN (a number names nothing)")
    @Broken(in = "int make(", from = "return UNKNOWN;", to = "return hasRiver() ? UNKNOWN : STATE;")
    static void withoutARiverAllAreUnknown(Due due) {
        due.is("make(0, 1)", none().make(0, 1), UNKNOWN);
    }

    @Says("of several the first as told by each call")
    @Broken(in = "int make(", from = "!now.hasReach(reach)", to = "isKind(kind) && !now.hasReach(reach)")
    static void unknownIsToldAheadOfOutside(Due due) {
        due.is("make(2, 5)", river(SMALL).make(2, 5), UNKNOWN);
        due.is("make(-1, -1)", river(SMALL).make(-1, -1), UNKNOWN);
    }

    @Says("they change nothing")
    @Broken(in = "int make(", from = "return OUTSIDE;", to = "now.kind[reach] = 0; return OUTSIDE;")
    @Broken(in = "int make(", from = "return UNKNOWN;", to = "now.kind[0] = 0; return UNKNOWN;")
    static void aRefusedOneMakesNothing(Due due) {
        RiverLessons x = river("p10-,r100;0");
        changesNothing(due, x, () -> x.make(0, 5));
        changesNothing(due, x, () -> x.make(2, 3));
    }
}
