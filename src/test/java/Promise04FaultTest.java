/** Promise 4, fault: where a page stops to be a river, at each limit that a river has. */
public final class Promise04FaultTest extends Cases {
    private static final String SEVEN = LONG.substring(0, LONG.indexOf(';'));

    public static void main(String[] args) {
        runAll(Promise04FaultTest.class);
    }

    private static void faults(Due due, int place, String... pages) {
        for (String page : pages) {
            due.is("fault() of " + page, typed(page).fault(), place);
        }
    }

    /** Without a fault the answer is how many letters there are. */
    private static void fits(Due due, String... pages) {
        for (String page : pages) {
            faults(due, page.length(), page);
        }
    }

    @Says("how many letters it has, if there is none")
    @Broken(in = "int firstFault(", from = "return size;", to = "return size > 0 ? size : NONE;")
    static void anEmptyPageHasNone(Due due) {
        faults(due, 0, "");
    }

    @Says("how many letters it has, if there is none")
    @Broken(in = "int firstFault(", from = "return size;", to = "return NONE;")
    static void everyBeginningOfARiverHasNone(Due due) {
        for (int letters = 0; letters <= LONG.length(); letters++) {
            fits(due, LONG.substring(0, letters));
        }
    }

    @Says("The place (from 0) of the first letter")
    @Broken(in = "int firstFault(", from = "int place = 0", to = "int place = 1")
    @Broken(in = "int firstFault(", from = "return place;", to = "return place + 1;")
    static void placesAreFromZero(Due due) {
        faults(due, 0, "x", "xr10-", ";0", ",", "10-");
    }

    @Says("the first letter of THE PAGE that no RIVER has there")
    @Broken(in = "int firstFault(", from = "return place;", to = "return Math.max(place, size - 1);")
    static void theFirstOfSeveralIsTold(Due due) {
        faults(due, 1, "r0x", "rrrr", "r,,,,;;;");
        faults(due, 10, SMALL.substring(0, 10) + "99;;x");
    }

    @Says("two to seven REACHES")
    @Broken(in = "class RiverLessons ", from = "LEAST_REACHES = 2", to = "LEAST_REACHES = 1")
    static void oneReachIsTooFew(Due due) {
        faults(due, 4, "r10-;", "r10-;0");
    }

    @Says("two to seven REACHES")
    @Broken(in = "class RiverLessons ", from = "LEAST_REACHES = 2", to = "LEAST_REACHES = 3")
    static void twoReachesAreEnough(Due due) {
        fits(due, "r10-,r10-;");
    }

    @Says("two to seven REACHES")
    @Broken(in = "boolean endsReach(", from = "reachesSoFar < MOST_REACHES", to = "reachesSoFar < MOST_REACHES - 1")
    static void thereMayBeSevenReaches(Due due) {
        fits(due, SEVEN, SEVEN + ";");
    }

    @Says("two to seven REACHES")
    @Broken(in = "boolean endsReach(", from = "reachesSoFar < MOST_REACHES", to = "reachesSoFar <= MOST_REACHES")
    static void eightReachesAreTooMany(Due due) {
        faults(due, 34, SEVEN + ",", SEVEN + ",r106");
    }

    @Says("0 REACH \"r\", 1 BROOK \"b\", 2 MEANDER \"m\", 3 WEIR \"w\", 4 POND \"p\"")
    @Broken(in = "class RiverLessons ", from = "\"rbmwp\"", to = "\"rbmw\"")
    @Broken(in = "int kindTold(", from = "return NONE;", to = "return code == 'R' ? 0 : NONE;")
    static void thereAreFiveLettersForKinds(Due due) {
        for (int code = 1; code <= 126; code++) {
            String page = Character.toString((char) code);
            faults(due, "rbmwp".indexOf(code) >= 0 ? 1 : 0, page);
        }
    }

    @Says("the FLOW (1 to 9)")
    @Broken(in = "boolean fitsReach(", from = "code >= '1'", to = "code >= '0'")
    static void aFlowOfZeroIsTooSmall(Due due) {
        faults(due, 1, "r0", "r/", "r-");
    }

    @Says("the FLOW (1 to 9)")
    @Broken(in = "boolean fitsReach(", from = "code >= '1'", to = "code > '1'")
    @Broken(in = "case 1: return code", from = "code <= '9'", to = "code < '9'")
    static void flowsAreFromOneToNine(Due due) {
        fits(due, "r1", "r9");
    }

    @Says("the FLOW (1 to 9)")
    @Broken(in = "case 1: return code", from = "code <= '9'", to = "code <= ':'")
    static void aFlowIsNoSignBehindNine(Due due) {
        faults(due, 1, "r:");
    }

    @Says("how WILD it is (0 to 9)")
    @Broken(in = "case 2: return code", from = "code >= '0'", to = "code > '0'")
    @Broken(in = "case 2: return code", from = "code <= '9'", to = "code < '9'")
    static void wildIsFromZeroToNine(Due due) {
        fits(due, "r10", "r19");
    }

    @Says("how WILD it is (0 to 9)")
    @Broken(in = "case 2: return code", from = "code >= '0'", to = "code >= '/'")
    @Broken(in = "case 2: return code", from = "code <= '9'", to = "code <= ':'")
    static void wildIsNoSignBesideTheDigits(Due due) {
        faults(due, 2, "r1/", "r1:", "r1-");
    }

    @Says("the number of a REACH ahead of it")
    @Broken(in = "boolean fitsReach(", from = "code < '0' + reach", to = "code <= '0' + reach")
    static void noReachRunsIntoItself(Due due) {
        faults(due, 3, "r100");
        faults(due, 8, "r10-,r101");
        faults(due, 33, SEVEN.substring(0, 33) + "6");
    }

    @Says("the number of a REACH ahead of it")
    @Broken(in = "boolean fitsReach(", from = "code < '0' + reach", to = "code <= '0' + reach + 1")
    static void noReachRunsIntoALaterOne(Due due) {
        faults(due, 3, "r101");
        faults(due, 8, "r10-,r102,r10-", "r10-,r109");
    }

    @Says("the number of a REACH ahead of it")
    @Broken(in = "boolean fitsReach(", from = "code < '0' + reach", to = "code < '0' + reach - 1")
    @Broken(in = "case 3: return code", from = "code >= '0'", to = "code > '0'")
    static void anyReachAheadWillDo(Due due) {
        fits(due, "r10-,r100", "r10-,r10-,r100", "r10-,r10-,r101", SEVEN);
    }

    @Says("into which it RUNS, or \"-\" (into the sea)")
    @Broken(in = "boolean fitsReach(", from = "code == '-'", to = "code == '-' && reach == 0")
    static void anyReachMayRunIntoTheSea(Due due) {
        fits(due, "r10-", "r10-,r10-", "r10-,r10-,r10-,r10-,r10-,r10-,r10-");
    }

    @Says("then \";\" and one to three GOVERNESSES")
    @Broken(in = "boolean fitsGoverness(", from = "return code >= '0'", to = "return code == ',' || code >= '0'")
    static void noGovernessIsTooFew(Due due) {
        faults(due, 10, "r10-,r10-;,", "r10-,r10-;;", "r10-,r10-;-");
    }

    @Says("then \";\" and one to three GOVERNESSES")
    @Broken(in = "boolean fitsGoverness(", from = "behind / 2 + 1 < MOST_GOVERNESSES", to = "behind / 2 + 2 < MOST_GOVERNESSES")
    static void thereMayBeThreeGovernesses(Due due) {
        fits(due, SMALL, SMALL + ",0", SMALL + ",0,1", LONG);
    }

    @Says("then \";\" and one to three GOVERNESSES")
    @Broken(in = "boolean fitsGoverness(", from = "behind / 2 + 1 < MOST_GOVERNESSES", to = "behind / 2 < MOST_GOVERNESSES")
    static void fourGovernessesAreTooMany(Due due) {
        faults(due, 15, SMALL + ",0,1,", SMALL + ",0,1,0");
        faults(due, 40, LONG + ",", LONG + ",0");
    }

    @Says("the digit of the REACH at which she is")
    @Broken(in = "boolean fitsGoverness(", from = "code < '0' + reaches", to = "code <= '0' + reaches")
    static void sheIsAtNoReachThatThereIsNot(Due due) {
        faults(due, 10, "r10-,r10-;2", "r10-,r10-;9", "r10-,r10-;/");
        faults(due, 35, SEVEN + ";7");
        faults(due, 12, SMALL + ",2");
    }

    @Says("the digit of the REACH at which she is")
    @Broken(in = "boolean fitsGoverness(", from = "code < '0' + reaches", to = "code < '0' + reaches - 1")
    @Broken(in = "boolean fitsGoverness(", from = "code >= '0'", to = "code > '0'")
    static void sheMayBeAtTheFirstAndTheLast(Due due) {
        fits(due, "r10-,r10-;0", "r10-,r10-;1", SEVEN + ";0", SEVEN + ";6");
    }

    @Says("(more than one may be at one)")
    @Broken(in = "return fitsGoverness(", from = "codes[place]);", to = "codes[place]) && codes[place] != codes[place - 2];")
    static void allMayBeAtOne(Due due) {
        fits(due, SMALL + ",0,0", SEVEN + ";6,6,6");
    }

    @Says("The place (from 0) of the first letter")
    @Broken(in = "boolean fitsGoverness(", from = "return code == ','", to = "return behind > 4 || code == ','")
    static void aPageCanBeLongerThanAnyRiver(Due due) {
        faults(due, 40, LONG + "zz", LONG + ",0", LONG + ";;");
    }
}
