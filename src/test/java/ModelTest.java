import java.util.Random;

/** Many runs of calls by fixed seeds, in the class and in the model of the document: every answer is the same. */
public final class ModelTest {
    private static final int RUNS = 1500, CALLS = 400, DIGEST_ONE_IN = 12;
    private static final Due due = new Due();

    public static void main(String[] args) {
        for (int run = 0; run < RUNS && due.wrong() < 20; run++) {
            run(run, new Random(run));
        }
        due.end();
    }

    private static void run(int run, Random chance) {
        RiverLessons x = new RiverLessons();
        Model m = new Model();
        int calls = 0;
        while (calls < CALLS && due.wrong() < 20) {
            if (chance.nextInt(calls < 40 ? 10 : 60) == 0) {
                String text = text(chance);
                for (int i = 0; i < text.length(); i++) {
                    due.is(run + ": letter", x.letter(text.charAt(i)), m.letter(text.charAt(i)));
                }
                due.is(run + ": fault of " + text, x.fault(), m.fault());
                due.is(run + ": river of " + text, x.river(), m.river());
                calls += text.length() + 2;
            } else {
                call(run + "." + calls + ": ", x, m, chance);
                calls++;
            }
        }
    }

    static String text(Random chance) {
        int reaches = 2 + chance.nextInt(6), governesses = 1 + chance.nextInt(3);
        boolean wet = chance.nextBoolean();
        StringBuilder text = new StringBuilder();
        for (int r = 0; r < reaches; r++) {
            int into = chance.nextInt(r + 1) - (chance.nextInt(3) == 0 ? 1 : 0);
            text.append(r > 0 ? "," : "").append("rbmwp".charAt(chance.nextInt(5)));
            text.append(wet ? 5 + chance.nextInt(5) : 1 + chance.nextInt(4)).append(chance.nextInt(10));
            text.append(r == 0 || into < 0 || into >= r ? "-" : Integer.toString(into));
        }
        for (int g = 0; g < governesses; g++) {
            text.append(g == 0 ? ';' : ',').append(chance.nextInt(reaches));
        }
        if (chance.nextInt(4) == 0) {
            spoilText(text, chance);
        }
        return text.toString();
    }

    private static void spoilText(StringBuilder text, Random chance) {
        int place = chance.nextInt(text.length());
        switch (chance.nextInt(4)) {
            case 0: text.setLength(place); break;
            case 1: text.setCharAt(place, "rbmwp0123456789-,;x".charAt(chance.nextInt(19))); break;
            case 2: text.insert(place, "rbmwp0123456789-,;x".charAt(chance.nextInt(19))); break;
            default: text.append(",0");
        }
    }

    /** Mostly a number that there is, at times one beside it or far off. */
    private static int number(Random chance, int bound) {
        switch (chance.nextInt(24)) {
            case 0: return -1;
            case 1: return bound;
            case 2: return chance.nextBoolean() ? Integer.MIN_VALUE : Integer.MAX_VALUE;
            case 3: return chance.nextInt(70);
            default: return chance.nextInt(bound);
        }
    }

    private static int asked(Random chance, int places) {
        return chance.nextInt(3) == 0 ? number(chance, 2) : 10 + number(chance, places);
    }

    private static void call(String at, RiverLessons x, Model m, Random chance) {
        int reach = number(chance, Math.max(1, m.count(0)));
        int governess = number(chance, Math.max(1, m.count(1)));
        int a, b;
        switch (chance.nextInt(24)) {
            case 0: a = number(chance, 127); due.is(at + "letter " + a, x.letter(a), m.letter(a)); break;
            case 1: due.is(at + "blank", x.blank(), m.blank()); break;
            case 2: due.is(at + "fault", x.fault(), m.fault()); break;
            case 3: due.is(at + "river", x.river(), m.river()); break;
            case 4: case 5: a = number(chance, 13); due.is(at + "reach " + reach + " " + a, x.reach(reach, a), m.reach(reach, a)); break;
            case 6: a = number(chance, 5); due.is(at + "as " + reach + " " + a, x.as(reach, a), m.as(reach, a)); break;
            case 7: due.is(at + "governess " + governess, x.governess(governess), m.governess(governess)); break;
            case 8: due.is(at + "send " + governess + " " + reach, x.send(governess, reach), m.send(governess, reach)); break;
            case 9: case 10: due.is(at + "month", x.month(), m.month()); break;
            case 11: a = number(chance, 10); due.is(at + "rain " + reach + " " + a, x.rain(reach, a), m.rain(reach, a)); break;
            case 12: a = number(chance, 5); due.is(at + "make " + reach + " " + a, x.make(reach, a), m.make(reach, a)); break;
            case 13: a = number(chance, 10); due.is(at + "spoil " + reach + " " + a, x.spoil(reach, a), m.spoil(reach, a)); break;
            case 14: a = chance.nextInt(8) == 0 ? number(chance, 5) : 1 + chance.nextInt(3); b = asked(chance, 4);
                due.is(at + "plan " + governess + " " + a + " " + b, x.plan(governess, a, b), m.plan(governess, a, b)); break;
            case 15: a = asked(chance, 3); due.is(at + "place " + a, x.place(a), m.place(a)); break;
            case 16: a = number(chance, 2); due.is(at + "weirs " + a, x.weirs(a), m.weirs(a)); break;
            case 17: a = number(chance, 2); due.is(at + "odds " + reach + " " + a, x.odds(reach, a), m.odds(reach, a)); break;
            case 18: a = number(chance, 21); boolean wet = chance.nextBoolean();
                due.is(at + "see " + reach + " " + a + " " + wet, x.see(reach, a, wet), m.see(reach, a, wet)); break;
            case 19: if (chance.nextInt(4) == 0) { due.is(at + "forget", x.forget(), m.forget()); } break;
            case 20: a = number(chance, 61); b = chance.nextInt(9) == 0 ? chance.nextInt() : number(chance, 9999); int what = number(chance, 3);
                due.is(at + "years " + a + " " + b + " " + what, x.years(a, b, what), m.years(a, b, what)); break;
            case 21: due.is(at + "image", x.image(), m.image()); break;
            case 22: due.is(at + "restore", x.restore(), m.restore()); break;
            default: a = number(chance, 11); due.is(at + "count " + a, x.count(a), m.count(a));
        }
        if (chance.nextInt(DIGEST_ONE_IN) == 0) {
            due.is(at + "digest", x.digest(), m.digest());
        }
    }
}
