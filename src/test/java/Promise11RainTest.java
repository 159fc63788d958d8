/** Promise 11, rain: flows from 0 to 9. */
public final class Promise11RainTest extends Cases {
    public static void main(String[] args) {
        runAll(Promise11RainTest.class);
    }

    @Says("OUTSIDE: flow (0 to 9)")
    @Broken(in = "int rain(", from = "flow < 0", to = "flow < -1")
    static void flowsBelowZeroAreOutside(Due due) {
        each(due, "rain(0, ..)", OUTSIDE, flow -> river(SMALL).rain(0, flow), -1, LOW);
    }

    @Says("OUTSIDE: flow (0 to 9)")
    @Broken(in = "int rain(", from = "flow < 0", to = "flow < 1")
    static void zeroIsTheLeast(Due due) {
        RiverLessons x = river(SMALL);
        due.is("rain(0, 0)", x.rain(0, 0), 1);
        due.is("flow", x.reach(0, 1), 0);
        due.is("water", x.reach(0, 4), 0);
    }

    @Says("OUTSIDE: flow (0 to 9)")
    @Broken(in = "int rain(", from = "flow > MOST_FLOW", to = "flow >= MOST_FLOW")
    static void nineIsTheGreatest(Due due) {
        RiverLessons x = river(SMALL);
        due.is("rain(0, 9)", x.rain(0, 9), 1);
        due.is("flow", x.reach(0, 1), 9);
    }

    @Says("OUTSIDE: flow (0 to 9)")
    @Broken(in = "int rain(", from = "flow > MOST_FLOW", to = "flow > MOST_FLOW + 1")
    static void flowsAboveNineAreOutside(Due due) {
        each(due, "rain(0, ..)", OUTSIDE, flow -> river(SMALL).rain(0, flow), 10, 11, HIGH);
    }

    @Says("which it had. UNKNOWN")
    @Broken(in = "int rain(", from = "!now.hasReach(reach)", to = "reach > 1 || !hasRiver()")
    @Broken(in = "int rain(", from = "!now.hasReach(reach)", to = "reach < 0 || !hasRiver()")
    static void reachesThatThereAreNotAreUnknown(Due due) {
        each(due, "rain", UNKNOWN, r -> river(SMALL).rain(r, 1), -1, 2, 7, LOW, HIGH);
    }

    @Says("UNKNOWN (a number names nothing)")
    @Broken(in = "int rain(", from = "return UNKNOWN;", to = "return hasRiver() ? UNKNOWN : STATE;")
    static void withoutARiverAllAreUnknown(Due due) {
        due.is("rain(0, 1)", none().rain(0, 1), UNKNOWN);
    }

    @Says("of several the first as told by each call")
    @Broken(in = "int rain(", from = "!now.hasReach(reach)", to = "flow >= 0 && flow <= 9 && !now.hasReach(reach)")
    static void unknownIsToldAheadOfOutside(Due due) {
        due.is("rain(2, 10)", river(SMALL).rain(2, 10), UNKNOWN);
        due.is("rain(-1, -1)", river(SMALL).rain(-1, -1), UNKNOWN);
    }

    @Says("they change nothing")
    @Broken(in = "int rain(", from = "return OUTSIDE;", to = "now.flow[reach] = MOST_FLOW; return OUTSIDE;")
    @Broken(in = "int rain(", from = "return UNKNOWN;", to = "now.flow[0] = flow; return UNKNOWN;")
    static void aRefusedOneDoesNotRain(Due due) {
        RiverLessons x = river(LONG);
        changesNothing(due, x, () -> x.rain(0, 10));
        changesNothing(due, x, () -> x.rain(7, 5));
    }
}
