/** Promise 2, letter: codes from 1 to 126, 42 letters at most. */
public final class Promise02LetterTest extends Cases {
    private static final String FULL_PAGE = "r".repeat(42);

    public static void main(String[] args) {
        runAll(Promise02LetterTest.class);
    }

    @Says("how many THE PAGE has")
    @Broken(in = "int letter(", from = "return page.size;", to = "return page.size - 1;")
    static void theFirstMakesItOne(Due due) {
        due.is("letter('r')", none().letter('r'), 1);
    }

    @Says("OUTSIDE: code (1 to 126)")
    @Broken(in = "int letter(", from = "code < 1", to = "code < 0")
    static void codesBelowOneAreOutside(Due due) {
        each(due, "letter", OUTSIDE, none()::letter, 0, -1, LOW);
    }

    @Says("OUTSIDE: code (1 to 126)")
    @Broken(in = "int letter(", from = "code < 1", to = "code < 2")
    static void oneIsTheLeastCode(Due due) {
        due.is("letter(1)", none().letter(1), 1);
    }

    @Says("OUTSIDE: code (1 to 126)")
    @Broken(in = "class RiverLessons ", from = "LAST_CODE = 126", to = "LAST_CODE = 125")
    static void aHundredAndTwentySixIsTheGreatestCode(Due due) {
        due.is("letter(126)", none().letter(126), 1);
    }

    @Says("OUTSIDE: code (1 to 126)")
    @Broken(in = "class RiverLessons ", from = "LAST_CODE = 126", to = "LAST_CODE = 127")
    static void codesAboveAreOutside(Due due) {
        each(due, "letter", OUTSIDE, none()::letter, 127, 128, HIGH);
    }

    @Says("FULL: above 42.")
    @Broken(in = "class RiverLessons ", from = "PAGE_LETTERS = 42", to = "PAGE_LETTERS = 41")
    static void thereIsRoomForLetter42(Due due) {
        due.is("letter 42", typed("r".repeat(41)).letter(';'), 42);
    }

    @Says("FULL: above 42.")
    @Broken(in = "class RiverLessons ", from = "PAGE_LETTERS = 42", to = "PAGE_LETTERS = 43")
    static void letter43IsFull(Due due) {
        due.is("letter 43", typed(FULL_PAGE).letter('r'), FULL);
    }

    @Says("of several the first as told by each call")
    @Broken(in = "int letter(", from = "if (code < 1 || code > LAST_CODE)",
        to = "if (page.size < PAGE_LETTERS && (code < 1 || code > LAST_CODE))")
    static void outsideIsToldAheadOfFull(Due due) {
        each(due, "letter on a full page", OUTSIDE, typed(FULL_PAGE)::letter, 0, 127);
    }

    @Says("they change nothing")
    @Broken(in = "int letter(", from = "return OUTSIDE;", to = "page.size++; return OUTSIDE;")
    static void anOutsideLetterDoesNotCome(Due due) {
        RiverLessons x = typed("r1");
        changesNothing(due, x, () -> x.letter(0));
        due.is("letters", x.count(9), 2);
    }

    @Says("they change nothing")
    @Broken(in = "int letter(", from = "return FULL;", to = "page.codes[0] = code; return FULL;")
    static void aLetterTooManyDoesNotCome(Due due) {
        RiverLessons x = typed(FULL_PAGE);
        changesNothing(due, x, () -> x.letter('b'));
        due.is("letters", x.count(9), 42);
    }
}
