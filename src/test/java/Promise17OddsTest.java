/** Promise 17, odds: never, always, by the last drop; questions and reaches that there are not. */
public final class Promise17OddsTest extends Cases {
    public static void main(String[] args) {
        runAll(Promise17OddsTest.class);
    }

    private static void odds(Due due, RiverLessons x, int reach, int above, int below) {
        due.is("odds(" + reach + ", 0)", x.odds(reach, 0), above);
        due.is("odds(" + reach + ", 1)", x.odds(reach, 1), below);
    }

    @Says("in lowest terms (0 of 1)")
    @Broken(in = "void reckonParts(", from = "while (below > 1", to = "while (above > 0 && below > 1")
    static void neverIsZeroOfOne(Due due) {
        odds(due, river(SMALL), 0, 0, 1);
        odds(due, river(LONG), 0, 0, 1);
    }

    @Says("in lowest terms (0 of 1)")
    @Broken(in = "void reckonParts(", from = "below > 1", to = "below > 2")
    static void alwaysIsOneOfOne(Due due) {
        odds(due, river("r90-,r900,r900;0"), 0, 1, 1);
        odds(due, river("r90-,r900,r900,r900,r900,r900,r900;0"), 0, 1, 1);
    }

    @Says("in lowest terms (0 of 1)")
    @Broken(in = "void reckonParts(", from = "above % 2 == 0", to = "above % 4 == 0")
    static void twoOfFourIsOneOfTwo(Due due) {
        odds(due, river("m95-,r10-;0"), 0, 1, 2);
    }

    @Says("0, 1, 2 or 3 more FLOW")
    @Broken(in = "class RiverLessons ", from = "SOURCE_MORE = 3", to = "SOURCE_MORE = 2")
    static void threeMoreMayMakeItFlood(Due due) {
        odds(due, river("m95-,r10-;0"), 0, 1, 2);
        odds(due, river("m94-,r10-;0"), 0, 0, 1);
        odds(due, river("m98-,r10-;0"), 0, 1, 1);
        odds(due, river("m97-,r10-;0"), 0, 1, 1);
    }

    @Says("0, 1, 2 or 3 more FLOW")
    @Broken(in = "class RiverLessons ", from = "SOURCE_MORE = 3", to = "SOURCE_MORE = 4")
    static void itIsNeverFourMore(Due due) {
        odds(due, river("r89-,r10-;0"), 0, 0, 1);
        odds(due, river("r99-,r10-;0"), 0, 1, 4);
    }

    @Says("0, 1, 2 or 3 more FLOW")
    @Broken(in = "void startWays(", from = "more <= most", to = "more <= Math.min(most, MOST_FLOW - river.flow[reach])")
    static void moreThanNineMayFlow(Due due) {
        odds(due, river("r99-,r10-;0"), 0, 1, 4);
    }

    @Says("each as likely, each by itself")
    @Broken(in = "void joinWays(", from = "addShifted(to, outOf(kind, water), from[water]);", to = "addShifted(to, outOf(kind, water), 1);")
    static void oneInAllTheirWays(Due due) {
        RiverLessons six = river("r30-,r100,r100,r100,r100,r100,r100;0");
        for (int r = 1; r <= 6; r++) {
            six.rain(r, 0);
        }
        odds(due, six, 0, 1, 4096);
        odds(due, river("r20-,r900,r700,r202;0"), 0, 15, 16);
        odds(due, river("r20-,r100,r801,r901;0"), 0, 15, 16);
        odds(due, river("r20-,r900,r900;0"), 0, 15, 16);
    }

    @Says("OUTSIDE: flow (0 to 9)")
    @Broken(in = "void joinWays(", from = "int water = 0", to = "int water = 1")
    @Broken(in = "void reckonParts(", from = "int water = 0", to = "int water = 1")
    static void thereMayBeNoWaterAtAll(Due due) {
        RiverLessons x = river("m19-,r100,r100;0");
        for (int r = 0; r <= 2; r++) {
            x.rain(r, 0);
        }
        odds(due, x, 0, 5, 8);
    }

    @Says("a REACH into which none RUNS")
    @Broken(in = "void startWays(", from = "river.isSource(reach) ? SOURCE_MORE : 0", to = "SOURCE_MORE")
    static void atOthersThereIsNoMore(Due due) {
        odds(due, river("r99-,r100;0"), 0, 1, 2);
    }

    @Says("UNKNOWN: reach; OUTSIDE.")
    @Broken(in = "int odds(", from = "!now.hasReach(reach)", to = "reach > 1 || !hasRiver()")
    @Broken(in = "int odds(", from = "!now.hasReach(reach)", to = "reach < 0 || !hasRiver()")
    static void reachesThatThereAreNotAreUnknown(Due due) {
        each(due, "odds", UNKNOWN, r -> river(SMALL).odds(r, 0), -1, 2, 7, LOW, HIGH);
    }

    @Says("UNKNOWN (a number names nothing)")
    @Broken(in = "int odds(", from = "return UNKNOWN;", to = "return hasRiver() ? UNKNOWN : STATE;")
    static void withoutARiverAllAreUnknown(Due due) {
        due.is("odds(0, 0)", none().odds(0, 0), UNKNOWN);
    }

    @Says("UNKNOWN: reach; OUTSIDE.")
    @Broken(in = "int odds(", from = "what < 0", to = "what < -1")
    @Broken(in = "int odds(", from = "what > 1", to = "what > 2")
    static void otherQuestionsAreOutside(Due due) {
        each(due, "odds(0, ..)", OUTSIDE, what -> river(SMALL).odds(0, what), -1, 2, LOW, HIGH);
    }

    @Says("of several the first as told by each call")
    @Broken(in = "int odds(", from = "!now.hasReach(reach)", to = "what < 2 && !now.hasReach(reach)")
    static void unknownIsToldAheadOfOutside(Due due) {
        due.is("odds(2, 2)", river(SMALL).odds(2, 2), UNKNOWN);
        due.is("odds(-1, -1)", river(SMALL).odds(-1, -1), UNKNOWN);
    }

    @Says("---- what would be.")
    @Broken(in = "int odds(", from = "chances.reckonWays(now);", to = "chances.reckonWays(now); now.rainOneMore(reach);")
    static void nothingIsDone(Due due) {
        RiverLessons x = river(SMALL);
        changesNothing(due, x, () -> x.odds(0, 0));
    }
}
