/** Promise 7, as: casts that fail, kinds and reaches that there are not. */
public final class Promise07AsTest extends Cases {
    /** A reach of each kind, by the number of its kind. */
    private static final String KINDS = "r10-,b10-,m10-,w10-,p10-;0";

    public static void main(String[] args) {
        runAll(Promise07AsTest.class);
    }

    @Says("NONE: it is none such (the cast fails)")
    @Broken(in = "int as(", from = "return such ? reach : NONE;", to = "return such ? reach : OUTSIDE;")
    @Broken(in = "int as(", from = "kind == now.kind[reach]", to = "kind >= now.kind[reach]")
    static void whatIsNoneSuchIsNone(Due due) {
        RiverLessons x = river(KINDS);
        each(due, "a plain one as", NONE, kind -> x.as(0, kind), 1, 2, 3, 4);
        each(due, "a brook as", NONE, kind -> x.as(1, kind), 2, 3, 4);
        each(due, "a meander as", NONE, kind -> x.as(2, kind), 1, 3, 4);
        each(due, "a weir as", NONE, kind -> x.as(3, kind), 1, 2, 4);
        each(due, "a pond as", NONE, kind -> x.as(4, kind), 2, 3);
    }

    @Says("All are REACHES")
    @Broken(in = "int as(", from = "kind == 0 ||", to = "kind == 0 && now.kind[reach] < POND ||")
    static void allAreReaches(Due due) {
        for (int r = 0; r <= 4; r++) {
            due.is("as(" + r + ", 0)", river(KINDS).as(r, 0), r);
        }
    }

    @Says("a POND is a BROOK, too")
    @Broken(in = "boolean isBrook(", from = "|| kind == POND", to = "")
    static void aPondIsABrook(Due due) {
        due.is("as(4, 1)", river(KINDS).as(4, 1), 4);
    }

    @Says("its own number, not that of the KIND")
    @Broken(in = "int as(", from = "return such ? reach : NONE;", to = "return such ? kind : NONE;")
    static void itIsToldByItsOwnNumber(Due due) {
        due.is("as(1, 2)", river("w10-,m10-;0").as(1, 2), 1);
        due.is("as(0, 3)", river("w10-,m10-;0").as(0, 3), 0);
    }

    @Says("UNKNOWN; OUTSIDE.")
    @Broken(in = "int as(", from = "if (!now.hasReach(reach))", to = "if (reach > 1 || !hasRiver())")
    @Broken(in = "int as(", from = "if (!now.hasReach(reach))", to = "if (reach < 0 || !hasRiver())")
    static void reachesThatThereAreNotAreUnknown(Due due) {
        each(due, "as", UNKNOWN, r -> river(SMALL).as(r, 0), -1, 2, 7, LOW, HIGH);
    }

    @Says("UNKNOWN (a number names nothing)")
    @Broken(in = "int as(", from = "if (!now.hasReach(reach))", to = "if (!now.hasReach(reach) && hasRiver())")
    static void withoutARiverAllAreUnknown(Due due) {
        due.is("as(0, 0)", none().as(0, 0), UNKNOWN);
    }

    @Says("UNKNOWN; OUTSIDE.")
    @Broken(in = "boolean isKind(", from = "kind >= 0", to = "kind >= -1")
    static void kindsBelowZeroAreOutside(Due due) {
        each(due, "as(0, ..)", OUTSIDE, kind -> river(KINDS).as(0, kind), -1, LOW);
    }

    @Says("UNKNOWN; OUTSIDE.")
    @Broken(in = "boolean isKind(", from = "kind < KIND", to = "kind <= KIND")
    static void kindsAboveFourAreOutside(Due due) {
        each(due, "as(0, ..)", OUTSIDE, kind -> river(KINDS).as(0, kind), 5, 6, HIGH);
    }

    @Says("of several the first as told by each call")
    @Broken(in = "int as(", from = "if (!now.hasReach(reach))", to = "if (isKind(kind) && !now.hasReach(reach))")
    static void unknownIsToldAheadOfOutside(Due due) {
        each(due, "as(.., 5)", UNKNOWN, r -> river(SMALL).as(r, 5), -1, 2);
    }
}
