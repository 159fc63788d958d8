/** Promise 8, governess: those that there are not. */
public final class Promise08GovernessTest extends Cases {
    public static void main(String[] args) {
        runAll(Promise08GovernessTest.class);
    }

    @Says("At which REACH a GOVERNESS is. UNKNOWN.")
    @Broken(in = "boolean hasGoverness(", from = "governess >= 0", to = "governess >= -1")
    static void governessesBelowZeroAreUnknown(Due due) {
        each(due, "governess", UNKNOWN, river(SMALL)::governess, -1, LOW);
    }

    @Says("At which REACH a GOVERNESS is. UNKNOWN.")
    @Broken(in = "boolean hasGoverness(", from = "governess < governesses", to = "governess <= governesses")
    static void governessesBehindTheLastAreUnknown(Due due) {
        each(due, "governess of one", UNKNOWN, river(SMALL)::governess, 1, 2, 3, HIGH);
        each(due, "governess of two", UNKNOWN, river(SMALL + ",0")::governess, 2, 3);
        each(due, "governess of three", UNKNOWN, river(LONG)::governess, 3, 4);
    }

    @Says("At which REACH a GOVERNESS is. UNKNOWN.")
    @Broken(in = "boolean hasGoverness(", from = "governess < governesses", to = "governess < governesses - 1")
    static void theLastGovernessIsKnown(Due due) {
        due.is("governess(0) of one", river(SMALL).governess(0), 0);
        due.is("governess(2) of three", river(LONG).governess(2), 6);
    }

    @Says("UNKNOWN (a number names nothing)")
    @Broken(in = "int governess(", from = ": UNKNOWN", to = ": hasRiver() ? UNKNOWN : STATE")
    static void withoutARiverAllAreUnknown(Due due) {
        each(due, "governess", UNKNOWN, none()::governess, 0, 1, 2);
    }
}
