/** Promise 16, weirs: none needed, none of help, all needed, like ones; questions that there are not, no river. */
public final class Promise16WeirsTest extends Cases {
    public static void main(String[] args) {
        runAll(Promise16WeirsTest.class);
    }

    private static void weirs(Due due, String text, int howMany, int which) {
        due.is("weirs(0) of " + text, river(text).weirs(0), howMany);
        due.is("weirs(1) of " + text, river(text).weirs(1), which);
    }

    @Says("what = 0 how many, 1 which, as bits; NONE.")
    @Broken(in = "void find(River river, River trial)", from = "howMany = NONE;", to = "howMany = 9;")
    @Broken(in = "void find(River river, River trial)", from = "which = NONE;", to = "which = 0;")
    static void whereNoneHelpThereIsNone(Due due) {
        weirs(due, "r90-,r900,r900;0", NONE, NONE);
        weirs(due, "w90-,w900,w900;0", NONE, NONE);
    }

    @Says("what = 0 how many, 1 which, as bits; NONE.")
    @Broken(in = "void find(River river, River trial)", from = "which = NONE;", to = "")
    @Broken(in = "void find(River river, River trial)", from = "howMany = NONE;", to = "")
    static void whatWasFoundAheadIsGoneWhereThereIsNone(Due due) {
        RiverLessons x = river("m39-,r10-,r101;0");
        due.is("weirs(0)", x.weirs(0), 1);
        due.is("weirs(1)", x.weirs(1), 1);
        x.rain(0, 9);
        x.rain(1, 9);
        x.rain(2, 9);
        x.spoil(1, 9);
        due.is("weirs(0) then", x.weirs(0), NONE);
        due.is("weirs(1) then", x.weirs(1), NONE);
    }

    @Says("so that none FLOODS: the fewest")
    @Broken(in = "void find(River river, River trial)", from = "int bits = 0", to = "int bits = 1")
    static void whereNoneFloodsItIsZero(Due due) {
        weirs(due, SMALL, 0, 0);
    }

    @Says("which REACHES to make WEIRS (besides those that are)")
    @Broken(in = "boolean keepsDry(", from = ": river.kind[r];", to = ": Math.min(river.kind[r], MEANDER);")
    static void thoseThatAreStayAndAreNotTold(Due due) {
        weirs(due, "r10-,w500,r901,r901;0", NONE, NONE);
        weirs(due, "r91-,w500,r901;0", 0, 0);
        weirs(due, "m39-,w100,m39-;0", 2, 0b101);
    }

    @Says("which, as bits")
    @Broken(in = "void find(River river, River trial)", from = "bits < 1 << river.reaches", to = "bits < (1 << river.reaches) - 1")
    static void allSevenMayBeNeeded(Due due) {
        weirs(due, "m39-,m39-,m39-,m39-,m39-,m39-,m39-;0", 7, 127);
    }

    @Says("so that none FLOODS: the fewest")
    @Broken(in = "void find(River river, River trial)", from = "number < howMany", to = "number > howMany")
    static void theFewestCountAheadOfTheLeast(Due due) {
        weirs(due, "r53-,r500,m161,p102,r903,r904;0", 1, 0b010000);
    }

    @Says("of like ones the least")
    @Broken(in = "void find(River river, River trial)", from = "number < howMany", to = "number <= howMany")
    static void ofLikeOnesTheLeast(Due due) {
        weirs(due, "r20-,r100,r901,r902;0", 1, 0b0010);
    }

    @Says("OUTSIDE; STATE: no RIVER")
    @Broken(in = "int weirs(", from = "what < 0", to = "what < -1")
    @Broken(in = "int weirs(", from = "what > 1", to = "what > 2")
    static void otherQuestionsAreOutside(Due due) {
        each(due, "weirs", OUTSIDE, river(SMALL)::weirs, -1, 2, LOW, HIGH);
    }

    @Says("OUTSIDE; STATE: no RIVER")
    @Broken(in = "int weirs(", from = "return STATE;", to = "return NONE;")
    static void withoutARiverItIsRefused(Due due) {
        each(due, "weirs", STATE, none()::weirs, 0, 1);
    }

    @Says("of several the first as told by each call")
    @Broken(in = "int weirs(", from = "if (what < 0 || what > 1)", to = "if (hasRiver() && (what < 0 || what > 1))")
    static void outsideIsToldAheadOfState(Due due) {
        each(due, "weirs without a river", OUTSIDE, none()::weirs, -1, 2);
    }

    @Says("---- what would be.")
    @Broken(in = "int weirs(", from = "laid.find(now, trial);", to = "laid.find(now, now);")
    static void nothingIsDone(Due due) {
        RiverLessons x = river("m39-,r10-;0");
        changesNothing(due, x, () -> x.weirs(0));
    }
}
