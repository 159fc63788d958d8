import java.math.BigInteger;

/** Promise 20, years: 1 to 60 months, seeds from 0, flows of 9 at most, seeds that wrap around. */
public final class Promise20YearsTest extends Cases {
    private static final BigInteger TWO_TO_THE_31 = BigInteger.ONE.shiftLeft(31);

    public static void main(String[] args) {
        runAll(Promise20YearsTest.class);
    }

    /** The seed behind so many draws, reckoned in whole numbers without an end. */
    private static int seedBehind(int draws, int seed) {
        BigInteger next = BigInteger.valueOf(seed);
        for (int i = 0; i < draws; i++) {
            next = next.multiply(BigInteger.valueOf(1103515245)).add(BigInteger.valueOf(12345)).mod(TWO_TO_THE_31);
        }
        return next.intValueExact();
    }

    /** The least seed by which it rains at a reach, of so many, in the first month, and she is sent to another. */
    private static int seedToRainAt(int reach, int reaches) {
        int seed = 0;
        while (seedBehind(2, seed) / 65536 % reaches != reach || seedBehind(1, seed) / 65536 % reaches == reach) {
            seed++;
        }
        return seed;
    }

    @Says("OUTSIDE: months (1 to 60), seed (0 at least), what")
    @Broken(in = "int years(", from = "months < 1", to = "months < 0")
    static void noMonthIsOutside(Due due) {
        each(due, "years(.., 0, 0)", OUTSIDE, months -> river(SMALL).years(months, 0, 0), 0, -1, LOW);
    }

    @Says("OUTSIDE: months (1 to 60), seed (0 at least), what")
    @Broken(in = "int years(", from = "months < 1", to = "months < 2")
    static void oneMonthIsTheLeast(Due due) {
        due.is("years(1, 0, 2)", river(SMALL).years(1, 0, 2), seedBehind(2, 0));
    }

    @Says("OUTSIDE: months (1 to 60), seed (0 at least), what")
    @Broken(in = "class RiverLessons ", from = "YEARS_MONTHS = 60", to = "YEARS_MONTHS = 59")
    static void sixtyMonthsAreTheMost(Due due) {
        due.is("years(60, 0, 2)", river(SMALL).years(60, 0, 2), seedBehind(120, 0));
        due.is("the first floods in each", river("r90-,r900,r900;0").years(60, 0, 0), 60);
    }

    @Says("OUTSIDE: months (1 to 60), seed (0 at least), what")
    @Broken(in = "class RiverLessons ", from = "YEARS_MONTHS = 60", to = "YEARS_MONTHS = 61")
    static void sixtyOneMonthsAreOutside(Due due) {
        each(due, "years(.., 0, 0)", OUTSIDE, months -> river(SMALL).years(months, 0, 0), 61, 62, HIGH);
    }

    @Says("OUTSIDE: months (1 to 60), seed (0 at least), what")
    @Broken(in = "int years(", from = "seed < 0", to = "seed < -1")
    static void seedsBelowZeroAreOutside(Due due) {
        each(due, "years(1, .., 0)", OUTSIDE, seed -> river(SMALL).years(1, seed, 0), -1, LOW);
    }

    @Says("OUTSIDE: months (1 to 60), seed (0 at least), what")
    @Broken(in = "int years(", from = "seed < 0", to = "seed <= 0")
    static void zeroIsTheLeastSeed(Due due) {
        due.is("years(1, 0, 2)", river(SMALL).years(1, 0, 2), 1406932606);
    }

    @Says("1103515245 times it and 12345, its rest by 2 to the 31")
    @Broken(in = "long nextSeed(", from = "% SEED_REST", to = "% (SEED_REST - 1)")
    @Broken(in = "class RiverLessons ", from = "SEED_REST = 2147483648L", to = "SEED_REST = 4294967296L")
    static void theGreatestSeedWrapsAround(Due due) {
        due.is("years(1, 2147483647, 2)", river(SMALL).years(1, HIGH, 2), seedBehind(2, HIGH));
        for (int months = 1; months <= 60; months++) {
            due.is("years(" + months + ", 2147483646, 2)", river(SMALL).years(months, HIGH - 1, 2), seedBehind(2 * months, HIGH - 1));
        }
    }

    @Says("then that by 65536 (rounded down), its rest")
    @Broken(in = "int drawn(", from = "seed / DRAW_PART % howMany", to = "(seed / DRAW_PART + 1) % howMany")
    static void aDrawMayBeTheFirstOrTheLast(Due due) {
        for (int reach = 0; reach < 7; reach++) {
            RiverLessons x = river("m18-,m18-,m18-,m18-,m18-,m18-,m18-;0");
            x.rain(reach, 4);
            due.is("5 and twice 8 floods, raining at " + reach, x.years(1, seedToRainAt(reach, 7), 0), 1);
        }
    }

    @Says("its FLOW is 1 more (9 at most)")
    @Broken(in = "void rainOneMore(", from = "flow[reach] + 1", to = "flow[reach] + 2")
    static void itRainsNoMoreThanOne(Due due) {
        due.is("19 and 1 is no flood", river("r70-,r600,r600;0").years(1, seedToRainAt(0, 3), 0), 0);
    }

    @Says("then the MONTH is")
    @Broken(in = "int years(", from = "trial.passMonth();", to = "")
    @Broken(in = "int years(", from = "trial.passMonth();", to = "trial.monthNumber = passed; trial.passMonth();")
    static void theyGoOnFromTheMonthThereIs(Due due) {
        due.is("wild behind month 2", river(SMALL).years(2, 7, 1), 0);
        due.is("wild behind month 3", river(SMALL).years(3, 7, 1), 1);
        due.is("wild behind month 3, from 2 on", months(river(SMALL), 2).years(1, 7, 1), 1);
    }

    @Says("how WILD all are in the end, together")
    @Broken(in = "void copyFrom(River", from = "governesses = other.governesses;", to = "")
    @Broken(in = "int years(", from = "what == 1 ?", to = "what == 0 ?")
    static void eachMonthHasItsLesson(Due due) {
        due.is("wild behind month 1", river("r15-,r15-;0").years(1, 7, 1), 9);
        due.is("wild behind month 2", river("r15-,r15-;0").years(2, 7, 1), 8);
    }

    @Says("its FLOW is 1 more (9 at most)")
    @Broken(in = "void rainOneMore(", from = "Math.min(flow[reach] + 1, MOST_FLOW)", to = "flow[reach] + 1")
    static void noFlowIsMoreThanNine(Due due) {
        due.is("9 and 9 never flood", river("r99-,r99-;0").years(60, 1, 0), 0);
    }

    @Says("its FLOW is 1 more (9 at most)")
    @Broken(in = "void rainOneMore(", from = "Math.min(flow[reach] + 1, MOST_FLOW)", to = "Math.max(flow[reach], Math.min(flow[reach] + 1, 8))")
    static void aFlowOfNineIsReached(Due due) {
        RiverLessons x = river("r80-,r600,r600;0");
        due.is("20 and 1 floods", x.years(1, seedToRainAt(0, 3), 0), 1);
    }

    @Says("what = 0 how many FLOOD, 1 how WILD, 2 the SEED then. OUTSIDE")
    @Broken(in = "int years(", from = "what < 0", to = "what < -1")
    @Broken(in = "int years(", from = "what > 2", to = "what > 3")
    static void otherQuestionsAreOutside(Due due) {
        each(due, "years(1, 0, ..)", OUTSIDE, what -> river(SMALL).years(1, 0, what), -1, 3, LOW, HIGH);
    }

    @Says("STATE: no RIVER")
    @Broken(in = "int years(", from = "return STATE;", to = "return NONE;")
    static void withoutARiverItIsRefused(Due due) {
        each(due, "years(1, 0, ..)", STATE, what -> none().years(1, 0, what), 0, 1, 2);
    }

    @Says("of several the first as told by each call")
    @Broken(in = "int years(", from = "months < 1 || months > YEARS_MONTHS", to = "hasRiver() && (months < 1 || months > YEARS_MONTHS)")
    @Broken(in = "int years(", from = "seed < 0", to = "hasRiver() && seed < 0")
    @Broken(in = "int years(", from = "what < 0 || what > 2", to = "hasRiver() && (what < 0 || what > 2)")
    static void outsideIsToldAheadOfState(Due due) {
        each(due, "years(.., 0, 0) without a river", OUTSIDE, months -> none().years(months, 0, 0), 0, 61);
        due.is("years(1, -1, 0) without a river", none().years(1, -1, 0), OUTSIDE);
        each(due, "years(1, 0, ..) without a river", OUTSIDE, what -> none().years(1, 0, what), -1, 3);
    }

    @Says("YEARS by a SEED, as they would be")
    @Broken(in = "int years(", from = "trial.copyFrom(now);", to = "trial.copyFrom(now); now.passMonth();")
    static void nothingIsDone(Due due) {
        RiverLessons x = river(LONG);
        changesNothing(due, x, () -> x.years(60, 5, 0));
    }
}
