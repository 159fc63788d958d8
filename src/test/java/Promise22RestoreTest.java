/** Promise 22, restore: where there is no image to go on from, and all that an image keeps. */
public final class Promise22RestoreTest extends Cases {
    private static final String KEEPS =
        "An IMAGE keeps KINDS, FLOWS, how WILD all are, GOVERNESSES, MONTHS, how many LESSONS were given, SEEN.";

    public static void main(String[] args) {
        runAll(Promise22RestoreTest.class);
    }

    /** With an image behind one month and one seen; then all is otherwise, and it goes on from the image. */
    private static RiverLessons restored() {
        RiverLessons x = months(river("r15-,p540,w650;1,2"), 1);
        x.see(2, 9, true);
        x.image();
        months(x, 3);
        x.make(2, 2);
        x.make(0, 4);
        x.rain(1, 9);
        x.rain(0, 0);
        x.spoil(0, 9);
        x.spoil(2, 9);
        x.send(0, 0);
        x.send(1, 1);
        x.forget();
        x.see(0, 0, false);
        x.see(2, 20, true);
        x.restore();
        return x;
    }

    private static void row(Due due, String name, int what, int... want) {
        RiverLessons x = restored();
        for (int r = 0; r < want.length; r++) {
            due.is(name + " " + r, x.reach(r, what), want[r]);
        }
    }

    @Says("STATE: none was kept")
    @Broken(in = "int restore(", from = "if (!imageKept)", to = "if (!imageKept && hasRiver())")
    static void withoutARiverNoneWasKept(Due due) {
        due.is("restore()", none().restore(), STATE);
    }

    @Says("STATE: none was kept")
    @Broken(in = "int restore(", from = "if (!imageKept)", to = "if (!hasRiver())")
    static void noneWasKeptOfThisRiver(Due due) {
        due.is("restore()", months(river(SMALL), 1).restore(), STATE);
    }

    @Says("or there is another RIVER since")
    @Broken(in = "int river(", from = "imageKept = false;", to = "")
    static void anotherRiverSinceHasNone(Due due) {
        RiverLessons x = river(LONG);
        x.image();
        Due.typed(x, SMALL);
        x.river();
        due.is("restore()", x.restore(), STATE);
        due.is("reaches", x.count(0), 2);
    }

    @Says("or there is another RIVER since")
    @Broken(in = "int river(", from = "imageKept = false;", to = "imageKept = imageKept && now.reaches == kept.reaches;")
    static void theSameTextIsAnotherRiver(Due due) {
        RiverLessons x = river(SMALL);
        x.image();
        Due.typed(x, SMALL);
        x.river();
        due.is("restore()", x.restore(), STATE);
    }

    @Says("or there is another RIVER since")
    @Broken(in = "int river(", from = "int told = page.reachesTold();", to = "int told = page.reachesTold(); imageKept = false;")
    static void onePageThatIsNoneIsNoOtherRiver(Due due) {
        RiverLessons x = river(SMALL);
        x.image();
        Due.typed(x, "r10-;0");
        x.river();
        due.is("restore()", x.restore(), 0);
    }

    @Says("they change nothing")
    @Broken(in = "int restore(", from = "return STATE;", to = "now.monthNumber = 0; return STATE;")
    static void aRefusedOneGoesOnAsItWas(Due due) {
        RiverLessons x = months(river(LONG), 2);
        changesNothing(due, x, x::restore);
        RiverLessons empty = none();
        changesNothing(due, empty, empty::restore);
    }

    @Says("how many MONTHS there were")
    @Broken(in = "int restore(", from = "return now.monthNumber;", to = "return Math.max(now.monthNumber, 1);")
    static void ofAnImageInMonthZeroThereWereNone(Due due) {
        RiverLessons x = river(SMALL);
        x.image();
        x.month();
        due.is("restore()", x.restore(), 0);
        due.is("the next", x.month(), 1);
    }

    @Says(KEEPS)
    @Broken(in = "void copyFrom(River", from = "System.arraycopy(other.kind, 0, kind, 0, MOST_REACHES);", to = "")
    static void itKeepsKinds(Due due) {
        row(due, "kind", 0, 0, 4, 3);
    }

    @Says(KEEPS)
    @Broken(in = "void copyFrom(River", from = "System.arraycopy(other.flow, 0, flow, 0, MOST_REACHES);", to = "")
    static void itKeepsFlows(Due due) {
        row(due, "flow", 1, 1, 5, 6);
    }

    @Says(KEEPS)
    @Broken(in = "void copyFrom(River", from = "System.arraycopy(other.water, 0, water, 0, MOST_REACHES);", to = "")
    static void theWaterIsAsItWas(Due due) {
        row(due, "water", 4, 9, 5, 6);
        row(due, "out", 5, 9, 2, 6);
    }

    @Says(KEEPS)
    @Broken(in = "void copyFrom(River", from = "System.arraycopy(other.wild, 0, wild, 0, MOST_REACHES);", to = "")
    static void itKeepsHowWildAllAre(Due due) {
        row(due, "wild", 2, 5, 4, 4);
    }

    @Says(KEEPS)
    @Broken(in = "void copyFrom(River", from = "System.arraycopy(other.at, 0, at, 0, MOST_GOVERNESSES);", to = "")
    static void itKeepsGovernesses(Due due) {
        due.is("governess(0)", restored().governess(0), 1);
        due.is("governess(1)", restored().governess(1), 2);
    }

    @Says(KEEPS)
    @Broken(in = "void copyFrom(River", from = "monthNumber = other.monthNumber;", to = "")
    static void itKeepsMonths(Due due) {
        due.is("months", restored().count(6), 1);
    }

    @Says(KEEPS)
    @Broken(in = "void copyFrom(River", from = "lessons = other.lessons;", to = "")
    static void itKeepsHowManyLessonsWereGiven(Due due) {
        due.is("lessons", restored().count(7), 2);
    }

    @Says(KEEPS)
    @Broken(in = "void copyFrom(Seen", from = "size = other.size;", to = "")
    @Broken(in = "void copyFrom(Seen", from = "reach[i] = other.reach[i];", to = "")
    @Broken(in = "void copyFrom(Seen", from = "more[i] = other.more[i];", to = "")
    @Broken(in = "void copyFrom(Seen", from = "floods[i] = other.floods[i];", to = "")
    static void itKeepsWhatIsSeen(Due due) {
        due.is("seen", restored().count(8), 1);
        row(due, "wilds", 8, 1023, 1023, 0b1111000000);
    }

    @Says(KEEPS)
    @Broken(in = "int restore(", from = "now.copyFrom(kept);", to = "now.copyFrom(kept); page.size = 0;")
    static void thePageIsNotKept(Due due) {
        RiverLessons x = river(SMALL);
        x.image();
        Due.typed(x, "r10");
        x.restore();
        due.is("letters", x.count(9), 3);
    }
}
