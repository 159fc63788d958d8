/**
 * Rivers that governesses bring up: a river read from a page, its months, lessons and rain, and what would become of it.
 * Every row is made in the constructor and used again, so that no call makes an object.
 */
public final class RiverLessons {
    public static final int NONE = -1, UNKNOWN = -101, OUTSIDE = -102, STATE = -103, FULL = -104;

    private static final int BROOK = 1, MEANDER = 2, WEIR = 3, POND = 4;
    private static final String KIND_LETTERS = "rbmwp";

    private static final int LEAST_REACHES = 2, MOST_REACHES = 7, MOST_GOVERNESSES = 3;
    private static final int PAGE_LETTERS = 42, LAST_CODE = 126, REACH_LETTERS = 5;
    private static final int MOST_FLOW = 9, MOST_WILD = 9, BANKS = 20, WEIR_LETS = 9;
    private static final int MOST_MONTHS = 999, PLAN_MONTHS = 4, YEARS_MONTHS = 60;
    private static final int MOST_SEEN = 6, MOST_MORE = 20;
    private static final int SOURCE_MORE = 3;
    /** No water in the odds is more than all flows and all that may rain at sources. */
    private static final int WATERS = MOST_REACHES * (MOST_FLOW + SOURCE_MORE) + 1;
    /** One flood outweighs all that seven reaches can be wild, so one number compares both. */
    private static final int FLOOD_WEIGHT = 100;
    private static final int FIRST_PLACE_ASKED = 10;
    private static final int REACH_TELLS = 13, COUNT_TELLS = 11;
    private static final long SEED_TIMES = 1103515245L, SEED_AND = 12345L, SEED_REST = 2147483648L, DRAW_PART = 65536L;
    private static final long DIGEST_START = 1231L, DIGEST_TIMES = 31L;

    private final Page page;
    private final River now;
    private final River kept;
    private final River trial;
    private final Seen seen;
    private final Seen keptSeen;
    private final Search search;
    private final Odds chances;
    private final Weirs laid;
    private boolean imageKept;
    private int timesRead;

    public RiverLessons() {
        page = new Page();
        now = new River();
        kept = new River();
        trial = new River();
        seen = new Seen();
        keptSeen = new Seen();
        search = new Search();
        chances = new Odds();
        laid = new Weirs();
        imageKept = false;
        timesRead = 0;
    }

    // ---- the river

    public int letter(int code) {
        if (code < 1 || code > LAST_CODE) {
            return OUTSIDE;
        }
        if (page.size >= PAGE_LETTERS) {
            return FULL;
        }
        page.codes[page.size] = code;
        page.size++;
        return page.size;
    }

    public int blank() {
        int had = page.size;
        page.size = 0;
        return had;
    }

    public int fault() {
        return page.firstFault();
    }

    public int river() {
        int told = page.reachesTold();
        if (told == 0) {
            return STATE;
        }
        now.readFrom(page, told);
        page.size = 0;
        seen.size = 0;
        imageKept = false;
        timesRead++;
        return told;
    }

    public int reach(int reach, int what) {
        if (!now.hasReach(reach)) {
            return UNKNOWN;
        }
        switch (what) {
            case 0: return now.kind[reach];
            case 1: return now.flow[reach];
            case 2: return now.wild[reach];
            case 3: return now.into[reach];
            case 4: return now.water[reach];
            case 5: return now.runsOut(reach);
            case 6: return now.floods(reach) ? 1 : 0;
            case 7: return now.governessBits(reach);
            case 8: return seen.wildBits(now, reach);
            case 9: return seen.tellingRain(now, reach);
            case 10: return now.bargeFrom(reach);
            case 11: return now.reachesToSea(reach);
            case 12: return now.isSource(reach) ? 1 : 0;
            default: return OUTSIDE;
        }
    }

    public int as(int reach, int kind) {
        if (!now.hasReach(reach)) {
            return UNKNOWN;
        }
        if (!isKind(kind)) {
            return OUTSIDE;
        }
        boolean such = kind == 0 || kind == now.kind[reach] || (kind == BROOK && isBrook(now.kind[reach]));
        return such ? reach : NONE;
    }

    public int governess(int governess) {
        return now.hasGoverness(governess) ? now.at[governess] : UNKNOWN;
    }

    // ---- what is done

    public int send(int governess, int reach) {
        if (!now.hasGoverness(governess) || !now.hasReach(reach)) {
            return UNKNOWN;
        }
        int was = now.at[governess];
        now.at[governess] = reach;
        return was;
    }

    public int month() {
        if (!hasRiver()) {
            return STATE;
        }
        if (now.monthNumber >= MOST_MONTHS) {
            return FULL;
        }
        now.passMonth();
        return now.monthNumber;
    }

    public int rain(int reach, int flow) {
        if (!now.hasReach(reach)) {
            return UNKNOWN;
        }
        if (flow < 0 || flow > MOST_FLOW) {
            return OUTSIDE;
        }
        int was = now.flow[reach];
        now.flow[reach] = flow;
        now.measure();
        return was;
    }

    public int make(int reach, int kind) {
        if (!now.hasReach(reach)) {
            return UNKNOWN;
        }
        if (!isKind(kind)) {
            return OUTSIDE;
        }
        int was = now.kind[reach];
        now.kind[reach] = kind;
        now.measure();
        return was;
    }

    public int spoil(int reach, int wild) {
        if (!now.hasReach(reach)) {
            return UNKNOWN;
        }
        if (wild < 0 || wild > MOST_WILD) {
            return OUTSIDE;
        }
        int was = now.wild[reach];
        now.wild[reach] = wild;
        return was;
    }

    // ---- what would be

    public int plan(int governess, int months, int what) {
        if (!now.hasGoverness(governess)) {
            return UNKNOWN;
        }
        if (months < 1 || months > PLAN_MONTHS || !Search.isAsked(what, PLAN_MONTHS)) {
            return OUTSIDE;
        }
        search.findPlan(now, governess, months);
        return search.told(what);
    }

    public int place(int what) {
        if (!Search.isAsked(what, MOST_GOVERNESSES)) {
            return OUTSIDE;
        }
        if (!hasRiver()) {
            return STATE;
        }
        search.findPlaces(now);
        return search.told(what);
    }

    public int weirs(int what) {
        if (what < 0 || what > 1) {
            return OUTSIDE;
        }
        if (!hasRiver()) {
            return STATE;
        }
        laid.find(now, trial);
        return laid.told(what);
    }

    public int odds(int reach, int what) {
        if (!now.hasReach(reach)) {
            return UNKNOWN;
        }
        if (what < 0 || what > 1) {
            return OUTSIDE;
        }
        chances.reckonWays(now);
        chances.reckonParts(now, reach);
        return what == 0 ? chances.above : chances.below;
    }

    // ---- what is seen

    public int see(int reach, int more, boolean floods) {
        if (!now.hasReach(reach)) {
            return UNKNOWN;
        }
        if (more < 0 || more > MOST_MORE) {
            return OUTSIDE;
        }
        if (seen.size >= MOST_SEEN) {
            return FULL;
        }
        seen.add(reach, more, floods);
        return seen.size;
    }

    public int forget() {
        int had = seen.size;
        seen.size = 0;
        return had;
    }

    public int years(int months, int seed, int what) {
        if (months < 1 || months > YEARS_MONTHS || seed < 0 || what < 0 || what > 2) {
            return OUTSIDE;
        }
        if (!hasRiver()) {
            return STATE;
        }
        trial.copyFrom(now);
        long next = seed;
        int flooded = 0;
        for (int passed = 0; passed < months; passed++) {
            next = nextSeed(next);
            trial.at[0] = drawn(next, trial.reaches);
            next = nextSeed(next);
            trial.rainOneMore(drawn(next, trial.reaches));
            trial.passMonth();
            flooded += trial.floodCount();
        }
        if (what == 0) {
            return flooded;
        }
        return what == 1 ? trial.wildTogether() : (int) next;
    }

    // ---- what is told of all

    public int image() {
        if (!hasRiver()) {
            return STATE;
        }
        kept.copyFrom(now);
        keptSeen.copyFrom(seen);
        imageKept = true;
        return now.monthNumber;
    }

    public int restore() {
        if (!imageKept) {
            return STATE;
        }
        now.copyFrom(kept);
        seen.copyFrom(keptSeen);
        return now.monthNumber;
    }

    public int count(int what) {
        switch (what) {
            case 0: return now.reaches;
            case 1: return now.governesses;
            case 2: return now.flowTogether();
            case 3: return now.wildTogether();
            case 4: return now.floodCount();
            case 5: return now.runsIntoSea();
            case 6: return now.monthNumber;
            case 7: return now.lessons;
            case 8: return seen.size;
            case 9: return page.size;
            case 10: return timesRead;
            default: return OUTSIDE;
        }
    }

    public long digest() {
        long h = digestReaches(DIGEST_START);
        h = digestGovernesses(h);
        if (hasRiver()) {
            h = digestRiver(h);
        }
        for (int i = 0; i < page.size; i++) {
            h = mixed(h, page.codes[i]);
        }
        for (int what = 0; what < COUNT_TELLS; what++) {
            h = mixed(h, count(what));
        }
        return h;
    }

    private long digestReaches(long start) {
        long h = start;
        chances.reckonWays(now);
        for (int r = 0; r < now.reaches; r++) {
            for (int what = 0; what < REACH_TELLS; what++) {
                h = mixed(h, reach(r, what));
            }
            chances.reckonParts(now, r);
            h = mixed(mixed(h, chances.above), chances.below);
        }
        return h;
    }

    private long digestGovernesses(long start) {
        long h = start;
        for (int g = 0; g < now.governesses; g++) {
            h = mixed(h, now.at[g]);
            search.findPlan(now, g, 2);
            h = mixed(mixed(h, search.told(0)), search.told(1));
            h = mixed(mixed(h, search.told(FIRST_PLACE_ASKED)), search.told(FIRST_PLACE_ASKED + 1));
        }
        return h;
    }

    private long digestRiver(long start) {
        search.findPlaces(now);
        long h = mixed(mixed(start, search.told(0)), search.told(1));
        for (int g = 0; g < MOST_GOVERNESSES; g++) {
            h = mixed(h, search.told(FIRST_PLACE_ASKED + g));
        }
        laid.find(now, trial);
        return mixed(mixed(h, laid.told(0)), laid.told(1));
    }

    private boolean hasRiver() {
        return now.reaches > 0;
    }

    private static long mixed(long h, long number) {
        return DIGEST_TIMES * h + number;
    }

    private static boolean isKind(int kind) {
        return kind >= 0 && kind < KIND_LETTERS.length();
    }

    private static boolean isBrook(int kind) {
        return kind == BROOK || kind == POND;
    }

    private static int outOf(int kind, int water) {
        if (kind == WEIR) {
            return Math.min(water, WEIR_LETS);
        }
        return kind == POND ? water / 2 : water;
    }

    private static boolean overflows(int kind, int water, int wild) {
        int unruly = kind == MEANDER ? 2 * wild : wild;
        return water + unruly > BANKS;
    }

    /** The rule of a month for one reach; lessons of several governesses come to the same in any order. */
    private static int wildAfter(int kind, int wild, int month, int lessons) {
        if (lessons == 0) {
            return month % 3 == 0 ? Math.min(wild + 1, MOST_WILD) : wild;
        }
        boolean learns = !isBrook(kind) || month % 2 == 0;
        return learns ? Math.max(wild - lessons, 0) : wild;
    }

    private static long nextSeed(long seed) {
        return (SEED_TIMES * seed + SEED_AND) % SEED_REST;
    }

    private static int drawn(long seed, int howMany) {
        return howMany > 0 ? (int) (seed / DRAW_PART % howMany) : 0;
    }

    /** THE PAGE: the letters that came, and which of them a river could have. */
    private static final class Page {
        final int[] codes = new int[PAGE_LETTERS];
        int size = 0;

        int firstFault() {
            int semicolon = NONE;
            for (int place = 0; place < size; place++) {
                if (!fits(place, semicolon)) {
                    return place;
                }
                if (codes[place] == ';') {
                    semicolon = place;
                }
            }
            return size;
        }

        /** How many reaches the river on the page has; 0 if it is none, or not whole. */
        int reachesTold() {
            int semicolon = semicolonPlace();
            if (semicolon == NONE || firstFault() < size) {
                return 0;
            }
            // A governess and the sign ahead of her are two letters, so a whole text has an even rest.
            return (size - semicolon) % 2 == 0 ? reachesAheadOf(semicolon) : 0;
        }

        int semicolonPlace() {
            for (int place = 0; place < size; place++) {
                if (codes[place] == ';') {
                    return place;
                }
            }
            return NONE;
        }

        private boolean fits(int place, int semicolon) {
            if (semicolon == NONE) {
                return fitsReach(place / REACH_LETTERS, place % REACH_LETTERS, codes[place]);
            }
            return fitsGoverness(place - semicolon - 1, reachesAheadOf(semicolon), codes[place]);
        }

        private static int reachesAheadOf(int semicolon) {
            return (semicolon + 1) / REACH_LETTERS;
        }

        private static boolean fitsReach(int reach, int part, int code) {
            switch (part) {
                case 0: return kindTold(code) != NONE;
                case 1: return code >= '1' && code <= '9';
                case 2: return code >= '0' && code <= '9';
                case 3: return code == '-' || (code >= '0' && code < '0' + reach);
                default: return endsReach(reach + 1, code);
            }
        }

        private static boolean endsReach(int reachesSoFar, int code) {
            if (code == ',') {
                return reachesSoFar < MOST_REACHES;
            }
            return code == ';' && reachesSoFar >= LEAST_REACHES;
        }

        private static boolean fitsGoverness(int behind, int reaches, int code) {
            if (behind % 2 == 0) {
                return code >= '0' && code < '0' + reaches;
            }
            return code == ',' && behind / 2 + 1 < MOST_GOVERNESSES;
        }

        static int kindTold(int code) {
            for (int kind = 0; kind < KIND_LETTERS.length(); kind++) {
                if (KIND_LETTERS.charAt(kind) == code) {
                    return kind;
                }
            }
            return NONE;
        }
    }

    /** A river as it is, as it was kept, or as it would be; without reaches it is none. */
    private static final class River {
        int reaches = 0;
        int governesses = 0;
        int monthNumber = 0;
        int lessons = 0;
        final int[] kind = new int[MOST_REACHES];
        final int[] flow = new int[MOST_REACHES];
        final int[] wild = new int[MOST_REACHES];
        final int[] into = new int[MOST_REACHES];
        /** Kept by measure(): it goes by kinds and flows alone, which change seldom. */
        final int[] water = new int[MOST_REACHES];
        final int[] at = new int[MOST_GOVERNESSES];

        boolean hasReach(int reach) {
            return reach >= 0 && reach < reaches;
        }

        boolean hasGoverness(int governess) {
            return governess >= 0 && governess < governesses;
        }

        void readFrom(Page page, int told) {
            reaches = Math.min(told, MOST_REACHES);
            monthNumber = 0;
            lessons = 0;
            for (int r = 0; r < reaches; r++) {
                int place = r * REACH_LETTERS;
                kind[r] = Math.max(Page.kindTold(page.codes[place]), 0);
                flow[r] = page.codes[place + 1] - '0';
                wild[r] = page.codes[place + 2] - '0';
                into[r] = page.codes[place + 3] == '-' ? NONE : page.codes[place + 3] - '0';
            }
            int first = reaches * REACH_LETTERS;
            governesses = Math.min((page.size - first + 1) / 2, MOST_GOVERNESSES);
            for (int g = 0; g < governesses; g++) {
                at[g] = page.codes[first + 2 * g] - '0';
            }
            measure();
        }

        void copyFrom(River other) {
            reaches = other.reaches;
            governesses = other.governesses;
            monthNumber = other.monthNumber;
            lessons = other.lessons;
            System.arraycopy(other.kind, 0, kind, 0, MOST_REACHES);
            System.arraycopy(other.flow, 0, flow, 0, MOST_REACHES);
            System.arraycopy(other.wild, 0, wild, 0, MOST_REACHES);
            System.arraycopy(other.into, 0, into, 0, MOST_REACHES);
            System.arraycopy(other.water, 0, water, 0, MOST_REACHES);
            System.arraycopy(other.at, 0, at, 0, MOST_GOVERNESSES);
        }

        /** From the last to the first, since each runs into one ahead of it. */
        void measure() {
            for (int r = 0; r < reaches; r++) {
                water[r] = flow[r];
            }
            for (int r = reaches - 1; r >= 0; r--) {
                if (hasReach(into[r])) {
                    water[into[r]] += runsOut(r);
                }
            }
        }

        int runsOut(int reach) {
            return outOf(kind[reach], water[reach]);
        }

        boolean floods(int reach) {
            return overflows(kind[reach], water[reach], wild[reach]);
        }

        boolean isSource(int reach) {
            for (int r = 0; r < reaches; r++) {
                if (into[r] == reach) {
                    return false;
                }
            }
            return true;
        }

        int governessBits(int reach) {
            int bits = 0;
            for (int g = 0; g < governesses; g++) {
                if (at[g] == reach) {
                    bits |= 1 << g;
                }
            }
            return bits;
        }

        int bargeFrom(int reach) {
            int bits = wayBits(reach);
            int least = water[reach];
            for (int r = 0; r < reach; r++) {
                if ((bits >> r & 1) == 1) {
                    least = Math.min(least, water[r]);
                }
            }
            return least;
        }

        int reachesToSea(int reach) {
            return Integer.bitCount(wayBits(reach));
        }

        /** One way down is enough, since each runs into one ahead of it. */
        private int wayBits(int reach) {
            int bits = 1 << reach;
            for (int r = reach; r >= 0; r--) {
                if ((bits >> r & 1) == 1 && hasReach(into[r])) {
                    bits |= 1 << into[r];
                }
            }
            return bits;
        }

        void rainOneMore(int reach) {
            if (hasReach(reach)) {
                flow[reach] = Math.min(flow[reach] + 1, MOST_FLOW);
                measure();
            }
        }

        void passMonth() {
            monthNumber++;
            lessons += governesses;
            for (int r = 0; r < reaches; r++) {
                wild[r] = wildAfter(kind[r], wild[r], monthNumber, Integer.bitCount(governessBits(r)));
            }
        }

        int floodCount() {
            int flooded = 0;
            for (int r = 0; r < reaches; r++) {
                if (floods(r)) {
                    flooded++;
                }
            }
            return flooded;
        }

        int flowTogether() {
            int sum = 0;
            for (int r = 0; r < reaches; r++) {
                sum += flow[r];
            }
            return sum;
        }

        int wildTogether() {
            int sum = 0;
            for (int r = 0; r < reaches; r++) {
                sum += wild[r];
            }
            return sum;
        }

        int runsIntoSea() {
            int sum = 0;
            for (int r = 0; r < reaches; r++) {
                if (into[r] == NONE) {
                    sum += runsOut(r);
                }
            }
            return sum;
        }
    }

    /** What is SEEN, and what it tells of how wild a reach can be. */
    private static final class Seen {
        int size = 0;
        final int[] reach = new int[MOST_SEEN];
        final int[] more = new int[MOST_SEEN];
        final boolean[] floods = new boolean[MOST_SEEN];

        void add(int seenReach, int seenMore, boolean seenFloods) {
            if (size < MOST_SEEN) {
                reach[size] = seenReach;
                more[size] = seenMore;
                floods[size] = seenFloods;
                size++;
            }
        }

        void copyFrom(Seen other) {
            size = other.size;
            for (int i = 0; i < MOST_SEEN; i++) {
                reach[i] = other.reach[i];
                more[i] = other.more[i];
                floods[i] = other.floods[i];
            }
        }

        int wildBits(River river, int asked) {
            int bits = 0;
            for (int wild = 0; wild <= MOST_WILD; wild++) {
                if (agrees(river, asked, wild)) {
                    bits |= 1 << wild;
                }
            }
            return bits;
        }

        private boolean agrees(River river, int asked, int wild) {
            for (int i = 0; i < size; i++) {
                if (reach[i] == asked
                        && overflows(river.kind[asked], river.water[asked] + more[i], wild) != floods[i]) {
                    return false;
                }
            }
            return true;
        }

        int tellingRain(River river, int asked) {
            int bits = wildBits(river, asked);
            if (bits == 0) {
                return NONE;
            }
            int best = 0;
            int fewest = leftAtWorst(river, asked, bits, 0);
            for (int rain = 1; rain <= MOST_MORE; rain++) {
                int left = leftAtWorst(river, asked, bits, rain);
                if (left < fewest) {
                    fewest = left;
                    best = rain;
                }
            }
            return best;
        }

        private static int leftAtWorst(River river, int asked, int bits, int rain) {
            int flooding = 0;
            for (int wild = 0; wild <= MOST_WILD; wild++) {
                boolean can = (bits >> wild & 1) == 1;
                if (can && overflows(river.kind[asked], river.water[asked] + rain, wild)) {
                    flooding++;
                }
            }
            return Math.max(flooding, Integer.bitCount(bits) - flooding);
        }
    }

    /**
     * Gives each step (a month of a PLAN, a governess of a PLACE) a reach, so that the score is least.
     * What becomes of a reach goes by nothing but which steps are at it, so its scores are reckoned once by these bits.
     */
    private static final class Search {
        final int[][] score = new int[MOST_REACHES][1 << PLAN_MONTHS];
        final int[] stepsAt = new int[MOST_REACHES];
        final int[] tried = new int[PLAN_MONTHS];
        final int[] found = new int[PLAN_MONTHS];
        int reaches = 0;
        int steps = 0;
        boolean apart = false;
        int best = NONE;

        static boolean isAsked(int what, int places) {
            return what == 0 || what == 1 || (what >= FIRST_PLACE_ASKED && what < FIRST_PLACE_ASKED + places);
        }

        void findPlan(River river, int governess, int months) {
            reaches = river.reaches;
            steps = months;
            apart = false;
            for (int r = 0; r < reaches; r++) {
                int others = Integer.bitCount(river.governessBits(r) & ~(1 << governess));
                for (int bits = 0; bits < 1 << steps; bits++) {
                    score[r][bits] = scoreOf(river, r, wildBehind(river, r, others, bits));
                }
            }
            find();
        }

        void findPlaces(River river) {
            reaches = river.reaches;
            steps = river.governesses;
            apart = true;
            for (int r = 0; r < reaches; r++) {
                for (int bits = 0; bits < 1 << steps; bits++) {
                    int wild = wildAfter(river.kind[r], river.wild[r], river.monthNumber + 1, Integer.bitCount(bits));
                    score[r][bits] = scoreOf(river, r, wild);
                }
            }
            find();
        }

        private int wildBehind(River river, int reach, int others, int bits) {
            int wild = river.wild[reach];
            for (int step = 0; step < steps; step++) {
                int lessons = others + (bits >> step & 1);
                wild = wildAfter(river.kind[reach], wild, river.monthNumber + 1 + step, lessons);
            }
            return wild;
        }

        private static int scoreOf(River river, int reach, int wild) {
            return overflows(river.kind[reach], river.water[reach], wild) ? FLOOD_WEIGHT + wild : wild;
        }

        private void find() {
            int total = 0;
            for (int r = 0; r < reaches; r++) {
                stepsAt[r] = 0;
                total += score[r][0];
            }
            best = NONE;
            tryFrom(this, 0, total);
        }

        /** Tries reaches in order, so that of like ones the first by numbers is found first and stays. */
        private static void tryFrom(Search search, int step, int total) {
            if (step >= search.steps || step >= PLAN_MONTHS) {
                search.keepIfBetter(total);
                return;
            }
            for (int r = 0; r < search.reaches; r++) {
                int bits = search.stepsAt[r];
                if (search.apart && bits != 0) {
                    continue;
                }
                int with = bits | 1 << step;
                search.stepsAt[r] = with;
                search.tried[step] = r;
                tryFrom(search, step + 1, total - search.score[r][bits] + search.score[r][with]);
                search.stepsAt[r] = bits;
            }
        }

        private void keepIfBetter(int total) {
            if (best == NONE || total < best) {
                best = total;
                System.arraycopy(tried, 0, found, 0, PLAN_MONTHS);
            }
        }

        int told(int what) {
            if (best == NONE) {
                return NONE;
            }
            if (what == 0) {
                return best / FLOOD_WEIGHT;
            }
            if (what == 1) {
                return best % FLOOD_WEIGHT;
            }
            int step = what - FIRST_PLACE_ASKED;
            return step >= 0 && step < steps && step < PLAN_MONTHS ? found[step] : NONE;
        }
    }

    /** The fewest further weirs behind which nothing floods. */
    private static final class Weirs {
        int howMany = NONE;
        int which = NONE;

        void find(River river, River trial) {
            howMany = NONE;
            which = NONE;
            trial.copyFrom(river);
            for (int bits = 0; bits < 1 << river.reaches; bits++) {
                int number = Integer.bitCount(bits);
                if ((howMany == NONE || number < howMany) && keepsDry(river, trial, bits)) {
                    howMany = number;
                    which = bits;
                }
            }
        }

        private static boolean keepsDry(River river, River trial, int bits) {
            for (int r = 0; r < river.reaches; r++) {
                trial.kind[r] = (bits >> r & 1) == 1 ? WEIR : river.kind[r];
            }
            trial.measure();
            return trial.floodCount() == 0;
        }

        int told(int what) {
            return what == 0 ? howMany : which;
        }
    }

    /** In how many ways each reach can have each water, if it rains at the sources. */
    private static final class Odds {
        final int[][] ways = new int[MOST_REACHES][WATERS];
        final int[] joined = new int[WATERS];
        int above = 0;
        int below = 1;

        /** From the last to the first: no source is above two reaches of which neither runs into the other, so ways multiply. */
        void reckonWays(River river) {
            for (int r = 0; r < river.reaches; r++) {
                startWays(river, r);
            }
            for (int r = river.reaches - 1; r >= 0; r--) {
                if (river.hasReach(river.into[r])) {
                    joinWays(river.kind[r], ways[r], ways[river.into[r]]);
                }
            }
        }

        private void startWays(River river, int reach) {
            int most = river.isSource(reach) ? SOURCE_MORE : 0;
            for (int water = 0; water < WATERS; water++) {
                int more = water - river.flow[reach];
                ways[reach][water] = more >= 0 && more <= most ? 1 : 0;
            }
        }

        private void joinWays(int kind, int[] from, int[] to) {
            for (int water = 0; water < WATERS; water++) {
                joined[water] = 0;
            }
            for (int water = 0; water < WATERS; water++) {
                if (from[water] > 0) {
                    addShifted(to, outOf(kind, water), from[water]);
                }
            }
            System.arraycopy(joined, 0, to, 0, WATERS);
        }

        private void addShifted(int[] to, int out, int times) {
            for (int water = out; water < WATERS; water++) {
                joined[water] += times * to[water - out];
            }
        }

        void reckonParts(River river, int reach) {
            above = 0;
            below = 0;
            for (int water = 0; water < WATERS; water++) {
                below += ways[reach][water];
                if (overflows(river.kind[reach], water, river.wild[reach])) {
                    above += ways[reach][water];
                }
            }
            // All ways together are a power of 4, so only 2 can divide both.
            while (below > 1 && above % 2 == 0) {
                above /= 2;
                below /= 2;
            }
        }
    }
}
