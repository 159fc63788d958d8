/** Promise 6, reach: no such reach or question, and the limits of water, floods, wilds, rain and barges. */
public final class Promise06ReachTest extends Cases {
    private static final int KIND = 0, INTO = 3, WATER = 4, OUT = 5, FLOODS = 6, GOVERNESSES = 7, WILDS = 8, RAIN = 9;
    private static final int BARGE = 10, THROUGH = 11, SOURCE = 12;

    public static void main(String[] args) {
        runAll(Promise06ReachTest.class);
    }

    @Says("UNKNOWN; OUTSIDE.")
    @Broken(in = "boolean hasReach(", from = "reach >= 0", to = "reach >= -1")
    static void reachesBelowZeroAreUnknown(Due due) {
        each(due, "reach", UNKNOWN, r -> river(SMALL).reach(r, KIND), -1, -2, LOW);
    }

    @Says("UNKNOWN; OUTSIDE.")
    @Broken(in = "boolean hasReach(", from = "reach < reaches", to = "reach <= reaches")
    static void reachesBehindTheLastAreUnknown(Due due) {
        each(due, "reach of two", UNKNOWN, r -> river(SMALL).reach(r, KIND), 2, 3, 7, HIGH);
        each(due, "reach of seven", UNKNOWN, r -> river(LONG).reach(r, KIND), 7, 8, HIGH);
    }

    @Says("UNKNOWN; OUTSIDE.")
    @Broken(in = "boolean hasReach(", from = "reach < reaches", to = "reach < reaches - 1")
    static void theLastReachIsKnown(Due due) {
        due.is("reach(1, 1) of two", river(SMALL).reach(1, 1), 1);
        due.is("reach(6, 1) of seven", river(LONG).reach(6, 1), 1);
    }

    @Says("UNKNOWN (a number names nothing)")
    @Broken(in = "int reach(", from = "if (!now.hasReach(reach))", to = "if (!now.hasReach(reach) && hasRiver())")
    static void withoutARiverAllAreUnknown(Due due) {
        for (int what = 0; what <= 12; what++) {
            due.is("reach(0, " + what + ")", none().reach(0, what), UNKNOWN);
        }
    }

    @Says("UNKNOWN; OUTSIDE.")
    @Broken(in = "int reach(", from = "case 0:", to = "case -1: case 0:")
    static void questionsBelowZeroAreOutside(Due due) {
        each(due, "reach(0, ..)", OUTSIDE, what -> river(SMALL).reach(0, what), -1, LOW);
    }

    @Says("UNKNOWN; OUTSIDE.")
    @Broken(in = "int reach(", from = "case 12:", to = "case 13: case 12:")
    @Broken(in = "int reach(", from = "default: return OUTSIDE;", to = "default: return UNKNOWN;")
    static void questionsAboveTwelveAreOutside(Due due) {
        each(due, "reach(0, ..)", OUTSIDE, what -> river(SMALL).reach(0, what), 13, 14, HIGH);
    }

    @Says("of several the first as told by each call")
    @Broken(in = "int reach(", from = "if (!now.hasReach(reach))", to = "if (what <= 12 && !now.hasReach(reach))")
    static void unknownIsToldAheadOfOutside(Due due) {
        each(due, "reach(.., 13)", UNKNOWN, r -> river(SMALL).reach(r, 13), -1, 2);
    }

    @Says("3 into which it RUNS (NONE: the sea)")
    @Broken(in = "void readFrom(", from = "== '-' ? NONE", to = "== '-' ? MOST_REACHES")
    static void intoTheSeaIsNone(Due due) {
        each(due, "into", NONE, r -> river(SMALL).reach(r, INTO), 0, 1);
    }

    @Says("of a WEIR 9 at most")
    @Broken(in = "class RiverLessons ", from = "WEIR_LETS = 9", to = "WEIR_LETS = 8")
    @Broken(in = "class RiverLessons ", from = "WEIR_LETS = 9", to = "WEIR_LETS = 10")
    static void aWeirLetsOutNineAtMost(Due due) {
        RiverLessons x = river("r10-,w100,r701;0");
        due.is("out of 8", x.reach(1, OUT), 8);
        x.rain(2, 8);
        due.is("out of 9", x.reach(1, OUT), 9);
        x.rain(2, 9);
        due.is("water", x.reach(1, WATER), 10);
        due.is("out of 10", x.reach(1, OUT), 9);
        due.is("water below", x.reach(0, WATER), 10);
    }

    @Says("of a POND half, rounded down")
    @Broken(in = "int outOf(", from = "water / 2", to = "(water + 1) / 2")
    static void aPondLetsOutHalfRoundedDown(Due due) {
        RiverLessons x = river("r10-,p10-;0");
        int[] outs = {0, 0, 1, 1, 2, 2, 3, 3, 4, 4};
        for (int flow = 0; flow <= 9; flow++) {
            x.rain(1, flow);
            due.is("out of " + flow, x.reach(1, OUT), outs[flow]);
        }
    }

    @Says("are more than 20 together")
    @Broken(in = "boolean overflows(", from = "> BANKS", to = ">= BANKS")
    static void twentyIsNoFlood(Due due) {
        due.is("20 and 0", river("r20-,r900,r900;0").reach(0, FLOODS), 0);
        due.is("11 and 9", river("r29-,r900;0").reach(0, FLOODS), 0);
    }

    @Says("are more than 20 together")
    @Broken(in = "class RiverLessons ", from = "BANKS = 20", to = "BANKS = 21")
    static void twentyOneIsAFlood(Due due) {
        due.is("21 and 0", river("r30-,r900,r900;0").reach(0, FLOODS), 1);
        due.is("12 and 9", river("r39-,r900;0").reach(0, FLOODS), 1);
    }

    @Says("(twice as much, of a MEANDER)")
    @Broken(in = "boolean overflows(", from = "2 * wild", to = "2 * wild + 1")
    static void aMeanderWithTwentyByTwiceIsNoFlood(Due due) {
        due.is("18 and twice 1", river("m91-,r900;0").reach(0, FLOODS), 0);
        due.is("2 and twice 9", river("m29-,r10-;0").reach(0, FLOODS), 0);
    }

    @Says("(twice as much, of a MEANDER)")
    @Broken(in = "boolean overflows(", from = "2 * wild", to = "wild")
    static void aMeanderWithTwentyOneByTwiceIsAFlood(Due due) {
        due.is("19 and twice 1", river("m11-,r900,r900;0").reach(0, FLOODS), 1);
        due.is("3 and twice 9", river("m39-,r10-;0").reach(0, FLOODS), 1);
    }

    @Says("7 which GOVERNESSES are at it, as bits")
    @Broken(in = "int governessBits(", from = "g < governesses", to = "g < governesses - 1")
    @Broken(in = "int governessBits(", from = "at[g] == reach", to = "at[g] >= reach")
    static void noneOrAllGovernessesAreAtOne(Due due) {
        due.is("where all are", river(LONG).reach(6, GOVERNESSES), 7);
        due.is("where none is", river(LONG).reach(5, GOVERNESSES), 0);
    }

    @Says("WILDS (0 to 9) it can be")
    @Broken(in = "int wildBits(", from = "wild <= MOST_WILD", to = "wild < MOST_WILD")
    @Broken(in = "int wildBits(", from = "int wild = 0", to = "int wild = 1")
    static void withNothingSeenItCanBeZeroToNine(Due due) {
        due.is("wilds", river(SMALL).reach(0, WILDS), 0b1111111111);
    }

    @Says("WILDS (0 to 9) it can be")
    @Broken(in = "boolean agrees(", from = "!= floods[i]", to = "!= (floods[i] && wild < MOST_WILD)")
    static void itCanBeNineAlone(Due due) {
        RiverLessons x = river(SMALL);
        x.see(0, 11, true);
        due.is("12 and more than 8", x.reach(0, WILDS), 0b1000000000);
    }

    @Says("WILDS (0 to 9) it can be")
    @Broken(in = "boolean agrees(", from = "!= floods[i]", to = "!= (floods[i] || wild == 0)")
    static void itCanBeZeroAlone(Due due) {
        RiverLessons x = river(SMALL);
        x.see(0, 19, false);
        due.is("20 and none", x.reach(0, WILDS), 0b0000000001);
    }

    @Says("so that all that is SEEN of it is so: as bits")
    @Broken(in = "int wildBits(", from = "return bits;", to = "return bits == 0 ? 1023 : bits;")
    static void itCanBeNone(Due due) {
        RiverLessons x = river(SMALL);
        x.see(0, 10, true);
        due.is("11 and more than 9", x.reach(0, WILDS), 0);
        due.is("the other", x.reach(1, WILDS), 1023);
    }

    @Says("none, if there are none")
    @Broken(in = "int tellingRain(", from = "return NONE;", to = "return 0;")
    static void noRainTellsWhereItCanBeNone(Due due) {
        RiverLessons x = river(SMALL);
        x.see(0, 10, true);
        due.is("rain", x.reach(0, RAIN), NONE);
    }

    @Says("of like ones the least")
    @Broken(in = "int tellingRain(", from = "left < fewest", to = "left <= fewest")
    @Broken(in = "int tellingRain(", from = "bits, 0)", to = "bits, -1)")
    static void ofLikeRainsTheLeast(Due due) {
        due.is("all flood, however much", river("r90-,r900,r900;0").reach(0, RAIN), 0);
        RiverLessons one = river(SMALL);
        one.see(0, 19, false);
        due.is("one is left, however much", one.reach(0, RAIN), 0);
        RiverLessons nine = river("r60-,r900;0");
        nine.see(0, 5, true);
        due.is("four and five, or five and four", nine.reach(0, RAIN), 0);
        RiverLessons three = river(SMALL);
        three.see(0, 17, false);
        due.is("one and two, or two and one", three.reach(0, RAIN), 18);
    }

    @Says("by how much more FLOW (0 to 20)")
    @Broken(in = "int tellingRain(", from = "int best = 0;", to = "int best = 1;")
    static void noRainAtAllMayTellMost(Due due) {
        RiverLessons x = river("r70-,r900;0");
        due.is("16 floods from 5 on", x.reach(0, RAIN), 0);
    }

    @Says("by how much more FLOW (0 to 20)")
    @Broken(in = "int tellingRain(", from = "int rain = 1", to = "int rain = 2")
    @Broken(in = "int tellingRain(", from = "bits, 0)", to = "bits, 1)")
    static void oneMayTellMost(Due due) {
        due.is("15 and 1 floods from 5 on", river("r60-,r900;0").reach(0, RAIN), 1);
    }

    @Says("by how much more FLOW (0 to 20)")
    @Broken(in = "int tellingRain(", from = "rain <= MOST_MORE", to = "rain < MOST_MORE")
    static void twentyMayTellMost(Due due) {
        RiverLessons x = river(SMALL);
        x.rain(0, 0);
        x.see(0, 19, false);
        due.is("0 or 1 are left", x.reach(0, WILDS), 3);
        due.is("20 tells them apart", x.reach(0, RAIN), 20);
    }

    @Says("so that fewest of these are left at worst")
    @Broken(in = "int leftAtWorst(", from = "Math.max(", to = "Math.min(")
    static void itGoesByTheWorst(Due due) {
        due.is("1 and 15 floods from 5 on", river(SMALL).reach(0, RAIN), 15);
    }

    @Says("the least WATER of it and of all into which it RUNS")
    @Broken(in = "int bargeFrom(", from = "int r = 0", to = "int r = 1")
    static void theReachAtTheSeaMayBeTheLeast(Due due) {
        RiverLessons x = river("r10-,p100,r901;0");
        x.rain(0, 0);
        x.rain(1, 0);
        due.is("9, then 9, then 4", x.reach(2, BARGE), 4);
    }

    @Says("the least WATER of it and of all into which it RUNS")
    @Broken(in = "int bargeFrom(", from = "int least = water[reach];", to = "int least = water[0];")
    static void theReachItselfMayBeTheLeast(Due due) {
        due.is("9, then 18", river("r90-,r900;0").reach(1, BARGE), 9);
        due.is("1, then 10", river("r90-,r100;0").reach(1, BARGE), 1);
    }

    @Says("the least WATER of it and of all into which it RUNS")
    @Broken(in = "int bargeFrom(", from = "(bits >> r & 1) == 1", to = "bits != 0")
    static void reachesBesideTheWayAreNothingToIt(Due due) {
        due.is("past a lesser brook", river("r90-,b100,r900;0").reach(2, BARGE), 9);
    }

    @Says("how many these are")
    @Broken(in = "int wayBits(", from = "int bits = 1 << reach;", to = "int bits = 1 << reach | 2;")
    static void atTheSeaItComesThroughOne(Due due) {
        each(due, "through", 1, r -> river(SMALL).reach(r, THROUGH), 0, 1);
        due.is("through, with others above", river(LONG).reach(0, THROUGH), 1);
    }

    @Says("how many these are")
    @Broken(in = "int wayBits(", from = "r >= 0", to = "r > 1")
    static void fromTheHillsItComesThroughSeven(Due due) {
        due.is("through", river(LONG).reach(6, THROUGH), 7);
    }

    @Says("a REACH into which none RUNS")
    @Broken(in = "boolean isSource(", from = "r < reaches", to = "r < reaches - 1")
    static void theOneIntoWhichTheLastRunsIsNoSource(Due due) {
        due.is("source 5", river(LONG).reach(5, SOURCE), 0);
        due.is("source 6", river(LONG).reach(6, SOURCE), 1);
        each(due, "source of its own", 1, r -> river(SMALL).reach(r, SOURCE), 0, 1);
    }
}
