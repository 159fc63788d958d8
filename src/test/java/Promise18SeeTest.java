/** Promise 18, see: 0 to 20 more, six at most. */
public final class Promise18SeeTest extends Cases {
    public static void main(String[] args) {
        runAll(Promise18SeeTest.class);
    }

    private static RiverLessons sixSeen() {
        RiverLessons x = river(SMALL);
        for (int i = 0; i < 6; i++) {
            x.see(i % 2, 20, true);
        }
        return x;
    }

    @Says("It is SEEN: how much is.")
    @Broken(in = "int see(", from = "return seen.size;", to = "return seen.size - 1;")
    static void theFirstMakesItOne(Due due) {
        due.is("see(0, 1, true)", river(SMALL).see(0, 1, true), 1);
    }

    @Says("SEEN (6 at most)")
    @Broken(in = "class RiverLessons ", from = "MOST_SEEN = 6", to = "MOST_SEEN = 5")
    static void thereIsRoomForTheSixth(Due due) {
        RiverLessons x = river(SMALL);
        for (int i = 1; i <= 6; i++) {
            due.is("see " + i, x.see(0, 19, false), i);
        }
        due.is("wilds", x.reach(0, 8), 1);
    }

    @Says("SEEN (6 at most)")
    @Broken(in = "boolean agrees(", from = "i < size", to = "i < size - 1")
    static void theSixthTells(Due due) {
        RiverLessons x = river(SMALL);
        for (int i = 1; i <= 5; i++) {
            x.see(1, 0, false);
        }
        x.see(0, 19, false);
        due.is("wilds", x.reach(0, 8), 1);
    }

    @Says("OUTSIDE: more (0 to 20); FULL.")
    @Broken(in = "class RiverLessons ", from = "MOST_SEEN = 6", to = "MOST_SEEN = 7")
    static void theSeventhIsFull(Due due) {
        due.is("see 7 of the first", sixSeen().see(0, 0, true), FULL);
        due.is("see 7 of the second", sixSeen().see(1, 0, false), FULL);
    }

    @Says("OUTSIDE: more (0 to 20); FULL.")
    @Broken(in = "int see(", from = "more < 0", to = "more < -1")
    static void lessThanZeroIsOutside(Due due) {
        each(due, "see(0, ..)", OUTSIDE, more -> river(SMALL).see(0, more, true), -1, LOW);
    }

    @Says("OUTSIDE: more (0 to 20); FULL.")
    @Broken(in = "int see(", from = "more < 0", to = "more < 1")
    static void zeroIsTheLeast(Due due) {
        RiverLessons x = river("r90-,r900;0");
        due.is("see(0, 0, true)", x.see(0, 0, true), 1);
        due.is("18 and more than 2", x.reach(0, 8), 0b1111111000);
    }

    @Says("OUTSIDE: more (0 to 20); FULL.")
    @Broken(in = "class RiverLessons ", from = "MOST_MORE = 20", to = "MOST_MORE = 19")
    static void twentyIsTheMost(Due due) {
        RiverLessons x = river(SMALL);
        x.rain(0, 0);
        due.is("see(0, 20, true)", x.see(0, 20, true), 1);
        due.is("20 and more than 0", x.reach(0, 8), 0b1111111110);
    }

    @Says("OUTSIDE: more (0 to 20); FULL.")
    @Broken(in = "class RiverLessons ", from = "MOST_MORE = 20", to = "MOST_MORE = 21")
    static void moreThanTwentyIsOutside(Due due) {
        each(due, "see(0, ..)", OUTSIDE, more -> river(SMALL).see(0, more, true), 21, 22, HIGH);
    }

    @Says("UNKNOWN: reach; OUTSIDE: more")
    @Broken(in = "int see(", from = "!now.hasReach(reach)", to = "reach > 1 || !hasRiver()")
    @Broken(in = "int see(", from = "!now.hasReach(reach)", to = "reach < 0 || !hasRiver()")
    static void reachesThatThereAreNotAreUnknown(Due due) {
        each(due, "see", UNKNOWN, r -> river(SMALL).see(r, 0, true), -1, 2, 7, LOW, HIGH);
    }

    @Says("UNKNOWN (a number names nothing)")
    @Broken(in = "int see(", from = "return UNKNOWN;", to = "return hasRiver() ? UNKNOWN : STATE;")
    static void withoutARiverAllAreUnknown(Due due) {
        due.is("see(0, 0, true)", none().see(0, 0, true), UNKNOWN);
    }

    @Says("of several the first as told by each call")
    @Broken(in = "int see(", from = "!now.hasReach(reach)", to = "more <= MOST_MORE && !now.hasReach(reach)")
    static void unknownIsToldAheadOfOutside(Due due) {
        due.is("see(2, 21, true)", river(SMALL).see(2, 21, true), UNKNOWN);
    }

    @Says("of several the first as told by each call")
    @Broken(in = "int see(", from = "if (!now.hasReach(reach))", to = "if (seen.size < MOST_SEEN && !now.hasReach(reach))")
    static void unknownIsToldAheadOfFull(Due due) {
        each(due, "see with six seen", UNKNOWN, r -> sixSeen().see(r, 0, true), -1, 2);
    }

    @Says("of several the first as told by each call")
    @Broken(in = "int see(", from = "if (more < 0 || more > MOST_MORE)", to = "if (seen.size < MOST_SEEN && (more < 0 || more > MOST_MORE))")
    static void outsideIsToldAheadOfFull(Due due) {
        each(due, "see(0, ..) with six seen", OUTSIDE, more -> sixSeen().see(0, more, true), -1, 21);
    }

    @Says("they change nothing")
    @Broken(in = "int see(", from = "return FULL;", to = "seen.size--; seen.add(reach, more, floods); return FULL;")
    @Broken(in = "int see(", from = "return OUTSIDE;", to = "seen.size = 0; return OUTSIDE;")
    @Broken(in = "int see(", from = "return UNKNOWN;", to = "seen.size = 0; return UNKNOWN;")
    static void whatIsRefusedIsNotSeen(Due due) {
        RiverLessons x = sixSeen();
        changesNothing(due, x, () -> x.see(0, 0, true));
        changesNothing(due, x, () -> x.see(1, 0, true));
        changesNothing(due, x, () -> x.see(0, 21, true));
        changesNothing(due, x, () -> x.see(2, 0, true));
        due.is("seen", x.count(8), 6);
    }
}
