/** Promise 9, send: governesses and reaches that there are not; where she is already. */
public final class Promise09SendTest extends Cases {
    public static void main(String[] args) {
        runAll(Promise09SendTest.class);
    }

    @Says("UNKNOWN: governess, reach.")
    @Broken(in = "int send(", from = "!now.hasGoverness(governess)", to = "governess > 0")
    @Broken(in = "int send(", from = "!now.hasGoverness(governess)", to = "governess < 0")
    static void governessesThatThereAreNotAreUnknown(Due due) {
        each(due, "send", UNKNOWN, g -> river(SMALL).send(g, 0), -1, 1, 3, LOW, HIGH);
    }

    @Says("UNKNOWN: governess, reach.")
    @Broken(in = "int send(", from = "!now.hasReach(reach)", to = "reach > 1")
    @Broken(in = "int send(", from = "!now.hasReach(reach)", to = "reach < 0")
    static void reachesThatThereAreNotAreUnknown(Due due) {
        each(due, "send(0, ..)", UNKNOWN, r -> river(SMALL).send(0, r), -1, 2, 7, LOW, HIGH);
    }

    @Says("UNKNOWN (a number names nothing)")
    @Broken(in = "int send(", from = "return UNKNOWN;", to = "return hasRiver() ? UNKNOWN : STATE;")
    static void withoutARiverAllAreUnknown(Due due) {
        due.is("send(0, 0)", none().send(0, 0), UNKNOWN);
    }

    @Says("at which she was")
    @Broken(in = "int send(", from = "return was;", to = "return was == reach ? NONE : was;")
    static void sheMayBeSentToWhereSheIs(Due due) {
        RiverLessons x = river(SMALL);
        due.is("send(0, 0)", x.send(0, 0), 0);
        due.is("send(0, 1)", x.send(0, 1), 0);
        due.is("send(0, 1) again", x.send(0, 1), 1);
    }

    @Says("they change nothing")
    @Broken(in = "int send(", from = "return UNKNOWN;", to = "now.at[0] = 0; return UNKNOWN;")
    static void aRefusedOneStays(Due due) {
        RiverLessons x = river(LONG);
        changesNothing(due, x, () -> x.send(0, 7));
        changesNothing(due, x, () -> x.send(3, 1));
        due.is("governess(0)", x.governess(0), 6);
    }
}
