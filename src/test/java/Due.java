/** Counts and prints answers that are not as due; ends the test with exit code 1 if there was one. */
final class Due {
    private int asked = 0;
    private int wrong = 0;
    private boolean hushed = false;
    private String where = "";

    /** What follows is asked in this case. */
    void begin(String name) {
        where = name + ": ";
    }

    /** Counts alone; nothing is printed from now on. */
    void hush() {
        hushed = true;
    }

    void is(String call, long got, long want) {
        asked++;
        if (got != want) {
            fail(call + " answered " + got + ", due is " + want);
        }
    }

    void holds(String what, boolean so) {
        asked++;
        if (!so) {
            fail("not so: " + what);
        }
    }

    private void fail(String line) {
        wrong++;
        if (!hushed) {
            System.out.println(where + line);
        }
    }

    int wrong() {
        return wrong;
    }

    void end() {
        System.out.println(asked + " answers, " + wrong + " not as due");
        if (wrong != 0 || asked == 0) {
            System.exit(1);
        }
    }

    static RiverLessons typed(RiverLessons x, String text) {
        for (int i = 0; i < text.length(); i++) {
            x.letter(text.charAt(i));
        }
        return x;
    }

    static RiverLessons river(String text) {
        RiverLessons x = typed(new RiverLessons(), text);
        if (x.river() < 0) {
            throw new IllegalStateException("no river: " + text);
        }
        return x;
    }
}
