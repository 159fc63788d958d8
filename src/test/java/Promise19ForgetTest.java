/** Promise 19, forget: where nothing is seen, and where as much is as can be. */
public final class Promise19ForgetTest extends Cases {
    public static void main(String[] args) {
        runAll(Promise19ForgetTest.class);
    }

    private static RiverLessons sixSeen() {
        RiverLessons x = river(SMALL);
        for (int i = 0; i < 6; i++) {
            x.see(0, 10, true);
        }
        return x;
    }

    @Says("how much was")
    @Broken(in = "int forget(", from = "return had;", to = "return had == 0 ? NONE : had;")
    static void whereNothingIsSeenItWasZero(Due due) {
        due.is("forget()", river(SMALL).forget(), 0);
    }

    @Says("how much was")
    @Broken(in = "int forget(", from = "int had = seen.size;", to = "int had = hasRiver() ? seen.size : STATE;")
    static void withoutARiverItWasZero(Due due) {
        due.is("forget()", none().forget(), 0);
    }

    @Says("how much was")
    @Broken(in = "int forget(", from = "return had;", to = "return Math.min(had, 5);")
    static void sixWereTheMost(Due due) {
        due.is("forget()", sixSeen().forget(), 6);
    }

    @Says("Nothing is SEEN any more")
    @Broken(in = "int forget(", from = "seen.size = 0;", to = "")
    static void nothingIsSeenThen(Due due) {
        RiverLessons x = sixSeen();
        due.is("wilds", x.reach(0, 8), 0);
        x.forget();
        due.is("seen", x.count(8), 0);
        due.is("wilds then", x.reach(0, 8), 1023);
        due.is("forget() again", x.forget(), 0);
    }

    @Says("Nothing is SEEN any more")
    @Broken(in = "int forget(", from = "seen.size = 0;", to = "seen.size = Math.max(seen.size - 5, 0);")
    static void thereIsRoomForSixAgain(Due due) {
        RiverLessons x = sixSeen();
        x.forget();
        for (int i = 1; i <= 6; i++) {
            due.is("see " + i, x.see(1, 0, false), i);
        }
    }
}
