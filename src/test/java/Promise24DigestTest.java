import java.math.BigInteger;
import java.util.ArrayList;
import java.util.List;

/** Promise 24, digest: no river, an empty and a full page, numbers below 0, and longs that wrap around. */
public final class Promise24DigestTest extends Cases {
    public static void main(String[] args) {
        runAll(Promise24DigestTest.class);
    }

    /** What the document tells of the numbers, reckoned in whole numbers without an end and cut to a long at last. */
    private static long reckoned(List<Integer> numbers) {
        BigInteger h = BigInteger.valueOf(1231);
        for (int number : numbers) {
            h = h.multiply(BigInteger.valueOf(31)).add(BigInteger.valueOf(number));
        }
        return h.longValue();
    }

    private static List<Integer> told(RiverLessons x, String page) {
        List<Integer> numbers = new ArrayList<>();
        for (int r = 0; r < x.count(0); r++) {
            for (int what = 0; what <= 12; what++) {
                numbers.add(x.reach(r, what));
            }
            numbers.add(x.odds(r, 0));
            numbers.add(x.odds(r, 1));
        }
        for (int g = 0; g < x.count(1); g++) {
            numbers.add(x.governess(g));
            for (int what : new int[] {0, 1, 10, 11}) {
                numbers.add(x.plan(g, 2, what));
            }
        }
        for (int what : new int[] {0, 1, 10, 11, 12}) {
            numbers.add(x.place(what));
        }
        numbers.add(x.weirs(0));
        numbers.add(x.weirs(1));
        page.chars().forEach(numbers::add);
        for (int what = 0; what <= 10; what++) {
            numbers.add(x.count(what));
        }
        return numbers;
    }

    @Says("with a RIVER (all up to the next semicolon) what place() tells for 0, 1 and 10 to 12, what weirs() tells for 0 and 1")
    @Broken(in = "long digest(", from = "if (hasRiver())", to = "if (page.size >= 0)")
    static void withoutARiverThereAreCountsAlone(Due due) {
        due.is("digest()", none().digest(), -5615653087944756271L);
    }

    @Says("letters of THE PAGE")
    @Broken(in = "long digest(", from = "i < page.size", to = "i < page.size - 1")
    @Broken(in = "long digest(", from = "page.codes[i]", to = "page.size")
    static void aFullPageIsToldLetterByLetter(Due due) {
        List<Integer> numbers = new ArrayList<>();
        RiverLessons x = none();
        for (int code = 85; code <= 126; code++) {
            x.letter(code);
            numbers.add(code);
        }
        for (int what = 0; what <= 10; what++) {
            numbers.add(what == 9 ? 42 : 0);
        }
        due.is("digest()", x.digest(), reckoned(numbers));
    }

    @Says("letters of THE PAGE")
    @Broken(in = "long digest(", from = "for (int i = 0; i < page.size; i++)", to = "for (int i = 0; i < Math.max(page.size, 1); i++)")
    static void anEmptyPageTellsNothing(Due due) {
        RiverLessons x = typed("~");
        x.blank();
        due.is("digest()", x.digest(), none().digest());
        RiverLessons y = river(SMALL);
        due.is("digest() with a river", y.digest(), reckoned(told(y, "")));
    }

    @Says("31 times h, and it (as longs, wrapping)")
    @Broken(in = "long mixed(", from = "DIGEST_TIMES * h + number", to = "(DIGEST_TIMES * h + number) & Long.MAX_VALUE")
    @Broken(in = "long mixed(", from = "DIGEST_TIMES * h + number", to = "(int) (DIGEST_TIMES * h + number)")
    static void itWrapsAroundAsLongsDo(Due due) {
        for (String text : new String[] {SMALL, LONG, "m99-,m99-,m99-,m99-,m99-,m99-,m99-;0,0,0"}) {
            RiverLessons x = Due.typed(river(text), "r~");
            due.is("digest() of " + text, x.digest(), reckoned(told(x, "r~")));
        }
    }

    @Says("for each of these numbers, in order, 31 times h, and it")
    @Broken(in = "long mixed(", from = "DIGEST_TIMES * h + number", to = "DIGEST_TIMES * h + Math.max(number, 0)")
    static void noneIsANumberAsAnother(Due due) {
        RiverLessons x = river("r90-,r900,r900;0");
        x.see(2, 0, true);
        due.is("digest() with NONE for into, rain, place and weirs", x.digest(), reckoned(told(x, "")));
    }

    @Says("of each REACH what reach() tells for 0 to 12, what odds() tells for 0 and 1")
    @Broken(in = "class RiverLessons ", from = "REACH_TELLS = 13", to = "REACH_TELLS = 12")
    @Broken(in = "long digestReaches(", from = "r < now.reaches", to = "r < now.reaches - 1")
    static void eachReachTellsAllUpToTwelve(Due due) {
        RiverLessons x = river(LONG);
        due.is("digest()", x.digest(), reckoned(told(x, "")));
    }

    @Says("of each GOVERNESS where she is, what plan() tells of 2 MONTHS for 0, 1, 10 and 11")
    @Broken(in = "long digestGovernesses(", from = "g < now.governesses", to = "g < now.governesses - 1")
    @Broken(in = "long digestGovernesses(", from = "findPlan(now, g, 2)", to = "findPlan(now, g, 1)")
    @Broken(in = "long digestGovernesses(", from = "FIRST_PLACE_ASKED + 1", to = "FIRST_PLACE_ASKED")
    static void eachGovernessTells(Due due) {
        for (String text : new String[] {LONG, "b21-,r990,r900;1"}) {
            RiverLessons x = river(text);
            due.is("digest() of " + text, x.digest(), reckoned(told(x, "")));
        }
    }

    @Says("what count() tells for 0 to 10")
    @Broken(in = "class RiverLessons ", from = "COUNT_TELLS = 11", to = "COUNT_TELLS = 10")
    static void countsAreToldUpToTen(Due due) {
        RiverLessons x = river(SMALL);
        due.is("digest()", x.digest(), reckoned(told(x, "")));
        due.is("a river more", Due.typed(x, SMALL).river(), 2);
        due.is("digest() then", x.digest(), reckoned(told(x, "")));
    }
}
