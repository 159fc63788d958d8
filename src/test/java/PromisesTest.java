/** Promise by promise: ordinary inputs, the edges that the document names, wrong inputs; answers reckoned by hand. */
public final class PromisesTest {
    private static final int NONE = RiverLessons.NONE, UNKNOWN = RiverLessons.UNKNOWN, OUTSIDE = RiverLessons.OUTSIDE;
    private static final int STATE = RiverLessons.STATE, FULL = RiverLessons.FULL;
    private static final int LOW = Integer.MIN_VALUE, HIGH = Integer.MAX_VALUE;

    /** Waters 22, 8, 12, 7, 3, 9; only the first floods. */
    private static final String BRANCHED = "r20-,w510,b930,p741,m352,r96-;1,4,1";
    /** Water 20 in the first, which floods as it is wild by 1. */
    private static final String BRIM = "r21-,r900,r900;1";
    private static final String SEVEN = "r11-,r110,r111,r112,r113,r114,r115";

    private static final Due due = new Due();

    public static void main(String[] args) {
        newObject();
        letter();
        blank();
        fault();
        river();
        reach();
        waterAndFlood();
        as();
        governessAndSend();
        month();
        rain();
        make();
        spoil();
        plan();
        place();
        weirs();
        odds();
        see();
        seenGoesByWhatIs();
        forget();
        years();
        image();
        restore();
        count();
        digest();
        refusalsChangeNothing();
        due.end();
    }

    private static void newObject() {
        RiverLessons x = new RiverLessons();
        for (int what = 0; what <= 10; what++) {
            due.is("new count(" + what + ")", x.count(what), 0);
        }
        due.is("new reach", x.reach(0, 0), UNKNOWN);
        due.is("new as", x.as(0, 0), UNKNOWN);
        due.is("new governess", x.governess(0), UNKNOWN);
        due.is("new send", x.send(0, 0), UNKNOWN);
        due.is("new month", x.month(), STATE);
        due.is("new rain", x.rain(0, 0), UNKNOWN);
        due.is("new make", x.make(0, 0), UNKNOWN);
        due.is("new spoil", x.spoil(0, 0), UNKNOWN);
        due.is("new plan", x.plan(0, 1, 0), UNKNOWN);
        due.is("new place", x.place(0), STATE);
        due.is("new weirs", x.weirs(0), STATE);
        due.is("new odds", x.odds(0, 0), UNKNOWN);
        due.is("new see", x.see(0, 0, true), UNKNOWN);
        due.is("new forget", x.forget(), 0);
        due.is("new years", x.years(1, 0, 0), STATE);
        due.is("new image", x.image(), STATE);
        due.is("new restore", x.restore(), STATE);
        due.is("new river", x.river(), STATE);
        due.is("new fault", x.fault(), 0);
        due.is("new blank", x.blank(), 0);
    }

    private static void letter() {
        RiverLessons x = new RiverLessons();
        for (int code : new int[] {0, -1, 127, 128, LOW, HIGH}) {
            due.is("letter(" + code + ")", x.letter(code), OUTSIDE);
        }
        due.is("letters behind refusals", x.count(9), 0);
        due.is("letter(1)", x.letter(1), 1);
        due.is("letter(126)", x.letter(126), 2);
        for (int size = 3; size <= 42; size++) {
            due.is("letter " + size, x.letter('r'), size);
        }
        due.is("letter 43", x.letter('r'), FULL);
        due.is("letter 43 outside", x.letter(0), OUTSIDE);
        due.is("letters when full", x.count(9), 42);
    }

    private static void blank() {
        RiverLessons x = Due.typed(new RiverLessons(), "r10-,b");
        due.is("blank", x.blank(), 6);
        due.is("blank again", x.blank(), 0);
        due.is("letter behind blank", x.letter('r'), 1);
        due.is("fault behind blank", x.fault(), 1);
        for (int i = 0; i < 60; i++) {
            x.letter('z');
        }
        due.is("blank of a full page", x.blank(), 42);
        due.is("letter behind a full page", x.letter('r'), 1);
        RiverLessons y = Due.typed(Due.river(BRIM), "zz");
        y.blank();
        due.is("the river stays behind blank", y.count(0), 3);
    }

    private static void faultAt(String text, int place) {
        due.is("fault of " + text, Due.typed(new RiverLessons(), text).fault(), place);
    }

    private static void fault() {
        faultAt("", 0);
        for (String kind : new String[] {"r", "b", "m", "w", "p"}) {
            faultAt(kind, 1);
        }
        for (String kind : new String[] {"x", "R", "0", ",", ";", " ", "q", "s"}) {
            faultAt(kind, 0);
        }
        faultAt("r0", 1);
        faultAt("r1", 2);
        faultAt("r9", 2);
        faultAt("r:", 1);
        faultAt("r/", 1);
        faultAt("r10", 3);
        faultAt("r19", 3);
        faultAt("r1:", 2);
        faultAt("r1/", 2);
        faultAt("r10-", 4);
        faultAt("r100", 3);
        faultAt("r10,", 3);
        faultAt("r10-;", 4);
        faultAt("r10-.", 4);
        faultAt("r10-r", 4);
        faultAt("r10-,", 5);
        faultAt("r10-,,", 5);
        faultAt("r10-,b990", 9);
        faultAt("r10-,b99-", 9);
        faultAt("r10-,b991", 8);
        faultAt("r10-,b99/", 8);
        faultAt("r10-,b990,w12", 13);
        faultAt("r10-,b990,w121", 14);
        faultAt("r10-,b990,w122", 13);
        faultAt("r10-,b990;", 10);
        faultAt("r10-,b990;0", 11);
        faultAt("r10-,b990;1", 11);
        faultAt("r10-,b990;2", 10);
        faultAt("r10-,b990;-", 10);
        faultAt("r10-,b990;,", 10);
        faultAt("r10-,b990;1;", 11);
        faultAt("r10-,b990;11", 11);
        faultAt("r10-,b990;1,", 12);
        faultAt("r10-,b990;1,r", 12);
        faultAt("r10-,b990;1,1", 13);
        faultAt("r10-,b990;1,1,0", 15);
        faultAt("r10-,b990;1,1,0,", 15);
        faultAt("r10-,b990;1,1,00", 15);
        faultAt("xr10-,b990;1", 0);
        faultAt(SEVEN, 34);
        faultAt(SEVEN + ",", 34);
        faultAt(SEVEN + ";", 35);
        faultAt(SEVEN + ";7", 35);
        faultAt(SEVEN + ";6,6,6", 40);
        faultAt(SEVEN + ";6,6,6,", 40);
        faultAt(SEVEN + ";6,6,6,6", 40);
        faultAt("r11-,r110,r111,r112,r113,r114,r116", 33);
    }

    private static void riverIs(String text, int answer) {
        RiverLessons x = Due.typed(new RiverLessons(), text);
        due.is("river of " + text, x.river(), answer);
        due.is("page behind river of " + text, x.count(9), answer == STATE ? text.length() : 0);
        due.is("reaches behind river of " + text, x.count(0), answer == STATE ? 0 : answer);
        due.is("rivers behind river of " + text, x.count(10), answer == STATE ? 0 : 1);
    }

    private static void river() {
        riverIs("", STATE);
        riverIs("r10-", STATE);
        riverIs("r10-,", STATE);
        riverIs("r10-,b990", STATE);
        riverIs("r10-,b990;", STATE);
        riverIs("r10-,b990;1,", STATE);
        riverIs("r10-,b990;1,0,", STATE);
        riverIs("r10-,b990;1,0,1,", STATE);
        riverIs("r10-;0", STATE);
        riverIs("r10-,b991;0", STATE);
        riverIs("r10-,b990;2", STATE);
        riverIs(";0", STATE);
        riverIs("r10-,b990;1", 2);
        riverIs("r10-,b99-;1,1", 2);
        riverIs("r10-,b990;1,0,1", 2);
        riverIs(SEVEN + ";6", 7);
        riverIs(SEVEN + ";6,0,6", 7);
        riverIs(SEVEN + ";6,0,6,", STATE);

        RiverLessons x = Due.river(BRIM);
        x.month();
        x.see(0, 1, true);
        x.image();
        Due.typed(x, "r10-");
        due.is("river of a part", x.river(), STATE);
        due.is("the month stays", x.count(6), 1);
        due.is("the seen stays", x.count(8), 1);
        due.is("the image stays", x.restore(), 1);
        Due.typed(x, ",b990;1,0");
        due.is("the page went on", x.river(), 2);
        due.is("month 0 again", x.count(6), 0);
        due.is("no lessons", x.count(7), 0);
        due.is("nothing seen", x.count(8), 0);
        due.is("twice read", x.count(10), 2);
        due.is("governesses", x.count(1), 2);
        due.is("no image of this one", x.restore(), STATE);
        due.is("reaches of the other are gone", x.reach(2, 0), UNKNOWN);
        due.is("governess of this one", x.governess(1), 0);
    }

    private static void reachRow(RiverLessons x, int what, int... want) {
        for (int r = 0; r < want.length; r++) {
            due.is("reach(" + r + ", " + what + ")", x.reach(r, what), want[r]);
        }
    }

    private static void reach() {
        RiverLessons x = Due.river(BRANCHED);
        reachRow(x, 0, 0, 3, 1, 4, 2, 0);
        reachRow(x, 1, 2, 5, 9, 7, 3, 9);
        reachRow(x, 2, 0, 1, 3, 4, 5, 6);
        reachRow(x, 3, NONE, 0, 0, 1, 2, NONE);
        reachRow(x, 4, 22, 8, 12, 7, 3, 9);
        reachRow(x, 5, 22, 8, 12, 3, 3, 9);
        reachRow(x, 6, 1, 0, 0, 0, 0, 0);
        reachRow(x, 7, 0, 5, 0, 0, 2, 0);
        reachRow(x, 8, 1023, 1023, 1023, 1023, 1023, 1023);
        reachRow(x, 9, 0, 8, 4, 9, 8, 7);
        reachRow(x, 10, 22, 8, 12, 7, 3, 9);
        reachRow(x, 11, 1, 2, 2, 3, 3, 1);
        reachRow(x, 12, 0, 0, 0, 1, 1, 1);
        for (int reach : new int[] {-1, 6, 7, LOW, HIGH}) {
            due.is("reach(" + reach + ", 0)", x.reach(reach, 0), UNKNOWN);
            due.is("reach(" + reach + ", 13)", x.reach(reach, 13), UNKNOWN);
        }
        for (int what : new int[] {-1, 13, LOW, HIGH}) {
            due.is("reach(0, " + what + ")", x.reach(0, what), OUTSIDE);
        }
        RiverLessons narrow = Due.river("r90-,w900,r901;0");
        due.is("water of a weir", narrow.reach(1, 4), 18);
        due.is("a barge goes by the least below, too", narrow.reach(2, 10), 9);
        narrow.rain(0, 0);
        narrow.make(1, 4);
        narrow.rain(1, 0);
        due.is("the least is the last", narrow.reach(2, 10), 4);
        due.is("the least is ahead of the sea", narrow.reach(1, 10), 4);
    }

    private static void waterAndFlood() {
        RiverLessons x = Due.river("r20-,r900,r900;0");
        due.is("20 is no flood", x.reach(0, 6), 0);
        x.spoil(0, 1);
        due.is("21 is", x.reach(0, 6), 1);
        x.rain(0, 1);
        due.is("19 and 1 is none", x.reach(0, 6), 0);
        x.make(0, 2);
        due.is("19 and twice 1 is", x.reach(0, 6), 1);
        x.rain(0, 0);
        due.is("18 and twice 1 is none", x.reach(0, 6), 0);
        RiverLessons out = Due.river("r10-,w500,r901;0");
        due.is("a weir lets 9", out.reach(1, 5), 9);
        due.is("of 14", out.reach(1, 4), 14);
        due.is("into the first", out.reach(0, 4), 10);
        out.make(1, 4);
        due.is("a pond lets half", out.reach(1, 5), 7);
        out.rain(1, 6);
        due.is("rounded down", out.reach(1, 5), 7);
        out.rain(2, 0);
        out.rain(1, 1);
        due.is("of 1 none", out.reach(1, 5), 0);
        for (int kind : new int[] {0, 1, 2}) {
            out.rain(1, 9);
            out.rain(2, 9);
            out.make(1, kind);
            due.is("all of kind " + kind, out.reach(1, 5), 18);
        }
    }

    private static void as() {
        RiverLessons x = Due.river(BRANCHED);
        int[] kinds = {0, 3, 1, 4, 2, 0};
        for (int r = 0; r < kinds.length; r++) {
            for (int kind = 0; kind <= 4; kind++) {
                boolean such = kind == 0 || kind == kinds[r] || (kind == 1 && kinds[r] == 4);
                due.is("as(" + r + ", " + kind + ")", x.as(r, kind), such ? r : NONE);
            }
        }
        due.is("a brook is no pond", x.as(2, 4), NONE);
        x.make(5, 4);
        due.is("made a pond", x.as(5, 1), 5);
        due.is("as(-1, 0)", x.as(-1, 0), UNKNOWN);
        due.is("as(6, 9)", x.as(6, 9), UNKNOWN);
        due.is("as(0, 5)", x.as(0, 5), OUTSIDE);
        due.is("as(0, -1)", x.as(0, -1), OUTSIDE);
        due.is("as(LOW, LOW)", x.as(LOW, LOW), UNKNOWN);
        due.is("as(0, HIGH)", x.as(0, HIGH), OUTSIDE);
    }

    private static void governessAndSend() {
        RiverLessons x = Due.river(BRANCHED);
        due.is("governess(0)", x.governess(0), 1);
        due.is("governess(1)", x.governess(1), 4);
        due.is("governess(2)", x.governess(2), 1);
        for (int governess : new int[] {-1, 3, LOW, HIGH}) {
            due.is("governess(" + governess + ")", x.governess(governess), UNKNOWN);
            due.is("send(" + governess + ", 0)", x.send(governess, 0), UNKNOWN);
        }
        for (int reach : new int[] {-1, 6, 7, LOW, HIGH}) {
            due.is("send(0, " + reach + ")", x.send(0, reach), UNKNOWN);
        }
        due.is("send(1, 5)", x.send(1, 5), 4);
        due.is("send(1, 5) again", x.send(1, 5), 5);
        due.is("where she is", x.governess(1), 5);
        due.is("the others stay", x.governess(0), 1);
        due.is("bits", x.reach(5, 7), 2);
        due.is("bits where she was", x.reach(4, 7), 0);
        due.is("one of two", Due.river("r10-,b990;1").governess(1), UNKNOWN);
    }

    private static void wilds(RiverLessons x, String when, int... want) {
        for (int r = 0; r < want.length; r++) {
            due.is(when + " wild " + r, x.reach(r, 2), want[r]);
        }
    }

    private static void month() {
        RiverLessons x = Due.river("r19-,b15-,p16-,r18-,w11-,m10-;1,2,4");
        due.is("month 1", x.month(), 1);
        wilds(x, "month 1", 9, 5, 6, 8, 0, 0);
        due.is("month 2", x.month(), 2);
        wilds(x, "month 2", 9, 4, 5, 8, 0, 0);
        due.is("month 3", x.month(), 3);
        wilds(x, "month 3", 9, 4, 5, 9, 0, 1);
        due.is("lessons", x.count(7), 9);
        x.send(1, 3);
        x.send(2, 3);
        due.is("month 4", x.month(), 4);
        wilds(x, "month 4", 9, 3, 5, 7, 0, 1);
        due.is("month 5", x.month(), 5);
        wilds(x, "month 5", 9, 3, 5, 5, 0, 1);
        due.is("month 6", x.month(), 6);
        wilds(x, "month 6", 9, 2, 6, 3, 1, 2);
        due.is("lessons in the end", x.count(7), 18);
        due.is("month told", x.count(6), 6);
        x.spoil(3, 1);
        x.month();
        due.is("two lessons, 0 at least", x.reach(3, 2), 0);
        due.is("flows stay", x.count(2), 6);
        RiverLessons pond = Due.river("p15-,b15-;0,0,1");
        pond.month();
        wilds(pond, "odd", 5, 5);
        pond.month();
        wilds(pond, "even", 3, 4);
        RiverLessons meander = Due.river("m15-,w15-;0,1");
        meander.month();
        wilds(meander, "meander and weir learn", 4, 4);
    }

    private static void rain() {
        RiverLessons x = Due.river(BRANCHED);
        due.is("rain(0, 0)", x.rain(0, 0), 2);
        due.is("rain(0, 9)", x.rain(0, 9), 0);
        due.is("flow", x.reach(0, 1), 9);
        due.is("water", x.reach(0, 4), 29);
        due.is("rain(4, 9)", x.rain(4, 9), 3);
        due.is("water below", x.reach(2, 4), 18);
        due.is("water at the sea", x.reach(0, 4), 35);
        due.is("rain(0, -1)", x.rain(0, -1), OUTSIDE);
        due.is("rain(0, 10)", x.rain(0, 10), OUTSIDE);
        due.is("rain(0, HIGH)", x.rain(0, HIGH), OUTSIDE);
        due.is("rain(6, 1)", x.rain(6, 1), UNKNOWN);
        due.is("rain(-1, 10)", x.rain(-1, 10), UNKNOWN);
        due.is("rain(LOW, 1)", x.rain(LOW, 1), UNKNOWN);
        due.is("flow stays", x.reach(0, 1), 9);
    }

    private static void make() {
        RiverLessons x = Due.river(BRANCHED);
        due.is("make(2, 3)", x.make(2, 3), 1);
        due.is("kind", x.reach(2, 0), 3);
        due.is("water below", x.reach(0, 4), 19);
        due.is("make(2, 4)", x.make(2, 4), 3);
        due.is("water below a pond", x.reach(0, 4), 16);
        due.is("make(2, 0)", x.make(2, 0), 4);
        due.is("make(2, 2)", x.make(2, 2), 0);
        due.is("make(2, 1)", x.make(2, 1), 2);
        due.is("water again", x.reach(0, 4), 22);
        due.is("make(2, 5)", x.make(2, 5), OUTSIDE);
        due.is("make(2, -1)", x.make(2, -1), OUTSIDE);
        due.is("make(2, LOW)", x.make(2, LOW), OUTSIDE);
        due.is("make(6, 5)", x.make(6, 5), UNKNOWN);
        due.is("make(-1, 0)", x.make(-1, 0), UNKNOWN);
        due.is("make(HIGH, 0)", x.make(HIGH, 0), UNKNOWN);
        due.is("kind stays", x.reach(2, 0), 1);
    }

    private static void spoil() {
        RiverLessons x = Due.river(BRANCHED);
        due.is("spoil(5, 9)", x.spoil(5, 9), 6);
        due.is("spoil(5, 0)", x.spoil(5, 0), 9);
        due.is("wild", x.reach(5, 2), 0);
        due.is("together", x.count(3), 13);
        due.is("spoil(5, 10)", x.spoil(5, 10), OUTSIDE);
        due.is("spoil(5, -1)", x.spoil(5, -1), OUTSIDE);
        due.is("spoil(5, HIGH)", x.spoil(5, HIGH), OUTSIDE);
        due.is("spoil(6, 10)", x.spoil(6, 10), UNKNOWN);
        due.is("spoil(-1, 0)", x.spoil(-1, 0), UNKNOWN);
        due.is("spoil(LOW, LOW)", x.spoil(LOW, LOW), UNKNOWN);
        due.is("wild stays", x.reach(5, 2), 0);
    }

    private static void planIs(RiverLessons x, int months, int floods, int wild, int... at) {
        String call = "plan(0, " + months + ", ";
        due.is(call + "0)", x.plan(0, months, 0), floods);
        due.is(call + "1)", x.plan(0, months, 1), wild);
        for (int i = 0; i < 4; i++) {
            due.is(call + (10 + i) + ")", x.plan(0, months, 10 + i), i < at.length ? at[i] : NONE);
        }
    }

    private static void plan() {
        RiverLessons x = Due.river(BRIM);
        planIs(x, 1, 0, 0, 0);
        planIs(x, 2, 0, 0, 0, 0);
        planIs(x, 3, 0, 2, 0, 0, 0);
        planIs(x, 4, 0, 1, 0, 0, 0, 1);
        due.is("nothing is done", x.count(6), 0);
        due.is("she is where she was", x.governess(0), 1);
        // The brook learns in month 2 alone, so that she is free in month 1.
        RiverLessons brook = Due.river("b21-,r990,r900;1");
        planIs(brook, 1, 1, 9, 1);
        planIs(brook, 2, 0, 8, 1, 0);
        brook.month();
        planIs(brook, 1, 0, 8, 0);
        // The other one teaches 0 all the while, so that this one is best at 1.
        RiverLessons two = Due.river("r13-,r13-;0,0");
        planIs(two, 1, 0, 4, 0);
        planIs(two, 4, 0, 0, 0, 1, 1, 1);
        RiverLessons floodFirst = Due.river("r21-,r990,r900;1");
        planIs(floodFirst, 2, 0, 8, 0, 1);
        for (int governess : new int[] {-1, 1, 3, LOW, HIGH}) {
            due.is("plan of " + governess, x.plan(governess, 0, 2), UNKNOWN);
        }
        for (int months : new int[] {0, 5, -1, LOW, HIGH}) {
            due.is("plan for " + months, x.plan(0, months, 0), OUTSIDE);
        }
        for (int what : new int[] {-1, 2, 9, 14, LOW, HIGH}) {
            due.is("plan what " + what, x.plan(0, 4, what), OUTSIDE);
        }
    }

    private static void placeIs(RiverLessons x, int floods, int wild, int first, int second, int third) {
        due.is("place(0)", x.place(0), floods);
        due.is("place(1)", x.place(1), wild);
        due.is("place(10)", x.place(10), first);
        due.is("place(11)", x.place(11), second);
        due.is("place(12)", x.place(12), third);
    }

    private static void place() {
        placeIs(Due.river(BRIM), 0, 0, 0, NONE, NONE);
        RiverLessons x = Due.river("b21-,r990,r900;1,1");
        placeIs(x, 1, 9, 0, 1, NONE);
        x.month();
        placeIs(x, 0, 6, 0, 1, NONE);
        due.is("nothing is done", x.count(6), 1);
        due.is("she is where she was", x.governess(0), 1);
        placeIs(Due.river("r15-,r15-,r15-,r15-;3,3,3"), 0, 17, 0, 1, 2);
        placeIs(Due.river("r10-,r15-,r10-,r15-,r15-;0,0,0"), 0, 12, 1, 3, 4);
        placeIs(Due.river("r15-,r15-;0,0,0"), NONE, NONE, NONE, NONE, NONE);
        placeIs(Due.river("r15-,r15-;0,0"), 0, 8, 0, 1, NONE);
        RiverLessons third = Due.river("r19-,r15-,r15-;0");
        third.month();
        third.month();
        placeIs(third, 0, 18, 0, NONE, NONE);
        third.spoil(0, 9);
        placeIs(third, 0, 19, 1, NONE, NONE);
        for (int what : new int[] {-1, 2, 9, 13, LOW, HIGH}) {
            due.is("place(" + what + ")", x.place(what), OUTSIDE);
            due.is("new place(" + what + ")", new RiverLessons().place(what), OUTSIDE);
        }
    }

    private static void weirsAre(RiverLessons x, int howMany, int which) {
        due.is("weirs(0)", x.weirs(0), howMany);
        due.is("weirs(1)", x.weirs(1), which);
    }

    private static void weirs() {
        weirsAre(Due.river(BRIM), NONE, NONE);
        RiverLessons x = Due.river("r50-,r600,r901;0");
        weirsAre(x, 0, 0);
        x.spoil(0, 1);
        weirsAre(x, 1, 2);
        x.make(1, 3);
        weirsAre(x, 0, 0);
        due.is("kinds stay", x.reach(0, 0), 0);
        weirsAre(Due.river("r10-,r800,r800,r201,r202;0"), 1, 2);
        weirsAre(Due.river("r90-,r900,r901,r902,r903;0"), 3, 14);
        weirsAre(Due.river("r10-,m990;0"), 1, 2);
        weirsAre(Due.river("r15-,r500,p901,r902;0"), 0, 0);
        weirsAre(Due.river("r16-,r500,p901,r902;0"), 1, 2);
        // 1 and 2 together are lesser bits, but 4 alone is fewer: the pond halves what it saves, and the meander is dry.
        weirsAre(Due.river("r53-,r500,m161,p102,r903,r904;0"), 1, 16);
        for (int what : new int[] {-1, 2, LOW, HIGH}) {
            due.is("weirs(" + what + ")", x.weirs(what), OUTSIDE);
            due.is("new weirs(" + what + ")", new RiverLessons().weirs(what), OUTSIDE);
        }
    }

    private static void oddsAre(RiverLessons x, int reach, int above, int below) {
        due.is("odds(" + reach + ", 0)", x.odds(reach, 0), above);
        due.is("odds(" + reach + ", 1)", x.odds(reach, 1), below);
    }

    private static void odds() {
        RiverLessons x = Due.river("r20-,r900,r900;1");
        oddsAre(x, 0, 15, 16);
        oddsAre(x, 1, 0, 1);
        x.spoil(1, 9);
        oddsAre(x, 1, 1, 4);
        x.spoil(2, 9);
        x.make(2, 2);
        oddsAre(x, 2, 1, 1);
        x.spoil(2, 5);
        oddsAre(x, 2, 1, 2);
        x.make(1, 3);
        oddsAre(x, 0, 3, 4);
        x.make(2, 3);
        oddsAre(x, 0, 0, 1);
        RiverLessons pond = Due.river("r79-,p800;0");
        oddsAre(pond, 0, 1, 2);
        RiverLessons five = Due.river("r20-,r500,r500,r800,m15-;0");
        oddsAre(five, 0, 63, 64);
        five.rain(0, 0);
        oddsAre(five, 0, 27, 32);
        due.is("flows stay", five.count(2), 19);
        for (int reach : new int[] {-1, 5, LOW, HIGH}) {
            due.is("odds(" + reach + ", 2)", five.odds(reach, 2), UNKNOWN);
        }
        for (int what : new int[] {-1, 2, LOW, HIGH}) {
            due.is("odds(0, " + what + ")", five.odds(0, what), OUTSIDE);
        }
    }

    private static void see() {
        RiverLessons x = Due.river("r20-,r900,m900;1");
        due.is("see(1, 7, true)", x.see(1, 7, true), 1);
        due.is("16 and more than 4", x.reach(1, 8), 0b1111100000);
        due.is("halves it", x.reach(1, 9), 4);
        due.is("see(1, 4, false)", x.see(1, 4, false), 2);
        due.is("13 and at most 7", x.reach(1, 8), 0b0011100000);
        due.is("thirds it", x.reach(1, 9), 5);
        due.is("see(2, 1, true)", x.see(2, 1, true), 3);
        due.is("10 and twice 6", x.reach(2, 8), 0b1111000000);
        due.is("the others as before", x.reach(0, 8), 1023);
        due.is("how wild it is told to be is nothing to it", x.reach(2, 2), 0);
        due.is("see(0, 0, false)", x.see(0, 0, false), 4);
        due.is("20 and none", x.reach(0, 8), 1);
        due.is("one is left however much", x.reach(0, 9), 0);
        due.is("see(0, 20, false)", x.see(0, 20, false), 5);
        due.is("none is left", x.reach(0, 8), 0);
        due.is("no rain tells", x.reach(0, 9), NONE);
        due.is("see(5, ..)", x.see(3, 0, true), UNKNOWN);
        due.is("see(-1, 21)", x.see(-1, 21, true), UNKNOWN);
        due.is("see(0, 21)", x.see(0, 21, true), OUTSIDE);
        due.is("see(0, -1)", x.see(0, -1, true), OUTSIDE);
        due.is("see 6", x.see(0, 0, true), 6);
        due.is("see 7", x.see(0, 0, true), FULL);
        due.is("see 7 outside", x.see(0, HIGH, true), OUTSIDE);
        due.is("see 7 unknown", x.see(LOW, 0, true), UNKNOWN);
        due.is("seen", x.count(8), 6);
    }

    private static void seenGoesByWhatIs() {
        RiverLessons x = Due.river("r10-,r900;1");
        x.see(1, 7, true);
        x.rain(1, 5);
        due.is("12 and more than 8", x.reach(1, 8), 0b1000000000);
        x.rain(1, 9);
        x.make(1, 2);
        due.is("16 and twice 3", x.reach(1, 8), 0b1111111000);
        x.spoil(1, 9);
        x.month();
        due.is("not by how wild it is", x.reach(1, 8), 0b1111111000);
        due.is("seen stays", x.count(8), 1);
    }

    private static void forget() {
        RiverLessons x = Due.river(BRIM);
        due.is("forget none", x.forget(), 0);
        x.see(0, 0, true);
        x.see(1, 0, true);
        due.is("wilds seen", x.reach(1, 8), 0);
        due.is("forget", x.forget(), 2);
        due.is("seen", x.count(8), 0);
        due.is("wilds", x.reach(1, 8), 1023);
        due.is("see again", x.see(1, 7, true), 1);
        due.is("wilds again", x.reach(1, 8), 0b1111100000);
    }

    private static void yearsAre(RiverLessons x, int months, int seed, int floods, int wild, int then) {
        String call = "years(" + months + ", " + seed + ", ";
        due.is(call + "0)", x.years(months, seed, 0), floods);
        due.is(call + "1)", x.years(months, seed, 1), wild);
        due.is(call + "2)", x.years(months, seed, 2), then);
    }

    private static void years() {
        RiverLessons x = Due.river(BRIM);
        yearsAre(x, 1, 1, 1, 1, 377401575);
        yearsAre(x, 2, 1, 1, 0, 1147902781);
        yearsAre(x, 3, 1, 2, 2, 368800899);
        yearsAre(x, 1, 0, 1, 0, 1406932606);
        yearsAre(x, 3, 0, 3, 2, 1109335178);
        due.is("the greatest seed", x.years(1, HIGH, 2), 288979989);
        due.is("flows stay", x.count(2), 20);
        due.is("wild stays", x.count(3), 1);
        due.is("she stays", x.governess(0), 1);
        due.is("month stays", x.count(6), 0);
        due.is("lessons stay", x.count(7), 0);
        // From month 2 on the first month is the third, in which the two others are wilder.
        x.month();
        x.month();
        yearsAre(x, 1, 1, 1, 3, 377401575);
        for (int months : new int[] {0, 61, -1, LOW, HIGH}) {
            due.is("years of " + months, x.years(months, 0, 0), OUTSIDE);
            due.is("new years of " + months, new RiverLessons().years(months, 0, 0), OUTSIDE);
        }
        due.is("years seed -1", x.years(1, -1, 0), OUTSIDE);
        due.is("years seed LOW", x.years(1, LOW, 0), OUTSIDE);
        for (int what : new int[] {-1, 3, LOW, HIGH}) {
            due.is("years what " + what, x.years(1, 0, what), OUTSIDE);
        }
        due.holds("60 months have an answer", x.years(60, 5, 0) >= 0);
        due.is("new years", new RiverLessons().years(60, 0, 2), STATE);
    }

    private static void image() {
        RiverLessons x = Due.river(BRANCHED);
        due.is("image in month 0", x.image(), 0);
        x.month();
        due.is("image in month 1", x.image(), 1);
        x.month();
        x.month();
        due.is("the latest", x.restore(), 1);
        due.is("month goes on", x.month(), 2);
    }

    private static void restore() {
        RiverLessons x = Due.river(BRANCHED);
        due.is("none was kept", x.restore(), STATE);
        x.month();
        x.see(4, 3, true);
        long before = x.digest();
        due.is("image", x.image(), 1);
        x.month();
        x.send(2, 0);
        x.rain(0, 9);
        x.make(2, 4);
        x.spoil(5, 1);
        x.see(0, 3, false);
        due.is("restore", x.restore(), 1);
        due.is("all as it was", x.digest(), before);
        x.forget();
        x.see(1, 2, false);
        x.see(2, 20, true);
        due.is("restore again", x.restore(), 1);
        due.is("all as it was again", x.digest(), before);
        x.letter('r');
        x.restore();
        due.is("the page is not kept", x.count(9), 1);
        x.blank();
        Due.typed(x, BRANCHED);
        x.river();
        due.is("another river since", x.restore(), STATE);
        due.is("and none in the new month", x.count(6), 0);
        due.is("image of it", x.image(), 0);
        due.is("restore of it", x.restore(), 0);
        due.is("times read are not kept", x.count(10), 2);
    }

    private static void count() {
        RiverLessons x = Due.typed(Due.river(BRANCHED), "zzz");
        x.month();
        x.see(0, 0, true);
        int[] want = {6, 3, 35, 17, 1, 31, 1, 3, 1, 3, 1};
        for (int what = 0; what < want.length; what++) {
            due.is("count(" + what + ")", x.count(what), want[what]);
        }
        for (int what : new int[] {-1, 11, LOW, HIGH}) {
            due.is("count(" + what + ")", x.count(what), OUTSIDE);
        }
    }

    private static long told(RiverLessons x, String page) {
        long h = 1231;
        for (int r = 0; r < x.count(0); r++) {
            for (int what = 0; what <= 12; what++) {
                h = 31 * h + x.reach(r, what);
            }
            h = 31 * (31 * h + x.odds(r, 0)) + x.odds(r, 1);
        }
        for (int g = 0; g < x.count(1); g++) {
            h = 31 * h + x.governess(g);
            for (int what : new int[] {0, 1, 10, 11}) {
                h = 31 * h + x.plan(g, 2, what);
            }
        }
        if (x.count(0) > 0) {
            for (int what : new int[] {0, 1, 10, 11, 12}) {
                h = 31 * h + x.place(what);
            }
            h = 31 * (31 * h + x.weirs(0)) + x.weirs(1);
        }
        for (int i = 0; i < page.length(); i++) {
            h = 31 * h + page.charAt(i);
        }
        for (int what = 0; what <= 10; what++) {
            h = 31 * h + x.count(what);
        }
        return h;
    }

    private static void digest() {
        RiverLessons none = new RiverLessons();
        due.is("digest of none", none.digest(), told(none, ""));
        Due.typed(none, "r~");
        due.is("digest of a page", none.digest(), told(none, "r~"));
        for (String text : new String[] {BRANCHED, BRIM, SEVEN + ";6,6,0", "p99-,p990;0,1,1"}) {
            RiverLessons x = Due.river(text);
            due.is("digest of " + text, x.digest(), told(x, ""));
            x.month();
            x.see(1, 5, true);
            Due.typed(x, "m9z");
            due.is("digest later of " + text, x.digest(), told(x, "m9z"));
        }
    }

    private static void refusalsChangeNothing() {
        RiverLessons x = Due.typed(Due.river(BRANCHED), "zz");
        x.month();
        x.see(1, 2, true);
        long before = x.digest();
        x.letter(0);
        x.river();
        x.reach(9, 0);
        x.reach(0, 13);
        x.as(9, 9);
        x.as(0, 9);
        x.governess(9);
        x.send(9, 0);
        x.send(0, 9);
        x.rain(9, 0);
        x.rain(0, 10);
        x.make(9, 0);
        x.make(0, 5);
        x.spoil(9, 0);
        x.spoil(0, 10);
        x.plan(9, 1, 0);
        x.plan(0, 5, 0);
        x.plan(0, 1, 2);
        x.place(2);
        x.weirs(2);
        x.odds(9, 0);
        x.odds(0, 2);
        x.see(9, 0, true);
        x.see(0, 21, true);
        x.years(0, 0, 0);
        x.years(1, -1, 0);
        x.years(1, 0, 3);
        x.restore();
        x.count(11);
        due.is("digest behind refusals", x.digest(), before);
    }
}
