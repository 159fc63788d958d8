/** Counts and prints answers that are not as due; ends the test with exit code 1 if there was one. */
final class Due {
    private int asked = 0;
    private int wrong = 0;

    void is(String call, long got, long want) {
        asked++;
        if (got != want) {
            wrong++;
            System.out.println(call + " answered " + got + ", due is " + want);
        }
    }

    void holds(String what, boolean so) {
        asked++;
        if (!so) {
            wrong++;
            System.out.println("not so: " + what);
        }
    }

    int wrong() {
        return wrong;
    }

    void end() {
        System.out.println(asked + " answers, " + wrong + " not as due");
        if (wrong != 0 || asked == 0) {
            System.exit(1);
        }
    }

    static RiverLessons typed(RiverLessons x, String text) {
        for (int i = 0; i < text.length(); i++) {
            x.letter(text.charAt(i));
        }
        return x;
    }

    static RiverLessons river(String text) {
        RiverLessons x = typed(new RiverLessons(), text);
        if (x.river() < 0) {
            throw new IllegalStateException("no river: " + text);
        }
        return x;
    }
}
