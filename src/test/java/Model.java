import java.math.BigInteger;
import java.util.ArrayList;
import java.util.List;
import java.util.regex.Matcher;
import java.util.regex.Pattern;

/**
 * The document word by word, slow and plain, written apart from the class: every question is answered by trying all
 * there is, lesson by lesson, rain by rain. ModelTest holds the class against it.
 */
final class Model {
    private static final int NONE = -1, UNKNOWN = -101, OUTSIDE = -102, STATE = -103, FULL = -104;

    /** A river with all that an image keeps. */
    private static final class World {
        int[] kind, flow, wild, into, at;
        int month, lessons;
        List<int[]> seen = new ArrayList<>();

        World copy() {
            World w = new World();
            w.kind = kind.clone();
            w.flow = flow.clone();
            w.wild = wild.clone();
            w.into = into.clone();
            w.at = at.clone();
            w.month = month;
            w.lessons = lessons;
            w.seen = new ArrayList<>(seen);
            return w;
        }

        int water(int reach) {
            int sum = flow[reach];
            for (int r = 0; r < into.length; r++) {
                if (into[r] == reach) {
                    sum += out(r);
                }
            }
            return sum;
        }

        int out(int reach) {
            int water = water(reach);
            return kind[reach] == 3 && water > 9 ? 9 : kind[reach] == 4 ? water >> 1 : water;
        }

        boolean floodsBy(int reach, int more, int howWild) {
            return water(reach) + more + (kind[reach] == 2 ? howWild + howWild : howWild) > 20;
        }

        boolean floods(int reach) {
            return floodsBy(reach, 0, wild[reach]);
        }

        int floodCount() {
            int n = 0;
            for (int r = 0; r < kind.length; r++) {
                n += floods(r) ? 1 : 0;
            }
            return n;
        }

        int sum(int[] row) {
            int n = 0;
            for (int value : row) {
                n += value;
            }
            return n;
        }

        boolean source(int reach) {
            for (int to : into) {
                if (to == reach) {
                    return false;
                }
            }
            return true;
        }

        void pass() {
            month++;
            for (int reach : at) {
                lessons++;
                boolean brook = kind[reach] == 1 || kind[reach] == 4;
                if (wild[reach] > 0 && (!brook || month % 2 == 0)) {
                    wild[reach]--;
                }
            }
            if (month % 3 == 0) {
                for (int r = 0; r < wild.length; r++) {
                    if (bitsAt(r) == 0 && wild[r] < 9) {
                        wild[r]++;
                    }
                }
            }
        }

        int bitsAt(int reach) {
            int bits = 0;
            for (int g = 0; g < at.length; g++) {
                bits += at[g] == reach ? 1 << g : 0;
            }
            return bits;
        }
    }

    private String page = "";
    private World now = null;
    private World kept = null;
    private int read = 0;

    private int reaches() {
        return now == null ? 0 : now.kind.length;
    }

    private int governesses() {
        return now == null ? 0 : now.at.length;
    }

    private boolean noReach(int reach) {
        return reach < 0 || reach >= reaches();
    }

    private boolean noGoverness(int governess) {
        return governess < 0 || governess >= governesses();
    }

    private static final Pattern RIVER = Pattern.compile(allRivers());

    private static String allRivers() {
        StringBuilder all = new StringBuilder();
        for (int n = 2; n <= 7; n++) {
            StringBuilder one = new StringBuilder("[rbmwp][1-9][0-9]-");
            for (int r = 1; r < n; r++) {
                one.append(",[rbmwp][1-9][0-9][-0-").append(r - 1).append(']');
            }
            String who = "[0-" + (n - 1) + "]";
            one.append(';').append(who).append("(,").append(who).append("){0,2}");
            all.append(n > 2 ? "|" : "").append('(').append(one).append(')');
        }
        return all.toString();
    }

    private static boolean couldBegin(String text) {
        Matcher m = RIVER.matcher(text);
        return m.matches() || m.hitEnd();
    }

    int letter(int code) {
        if (code < 1 || code > 126) {
            return OUTSIDE;
        }
        if (page.length() == 42) {
            return FULL;
        }
        page += (char) code;
        return page.length();
    }

    int blank() {
        int had = page.length();
        page = "";
        return had;
    }

    int fault() {
        for (int i = 0; i < page.length(); i++) {
            if (!couldBegin(page.substring(0, i + 1))) {
                return i;
            }
        }
        return page.length();
    }

    int river() {
        if (!RIVER.matcher(page).matches()) {
            return STATE;
        }
        String[] halves = page.split(";");
        String[] told = halves[0].split(",");
        String[] who = halves[1].split(",");
        World w = new World();
        w.kind = new int[told.length];
        w.flow = new int[told.length];
        w.wild = new int[told.length];
        w.into = new int[told.length];
        w.at = new int[who.length];
        for (int r = 0; r < told.length; r++) {
            w.kind[r] = "rbmwp".indexOf(told[r].charAt(0));
            w.flow[r] = Integer.parseInt(told[r].substring(1, 2));
            w.wild[r] = Integer.parseInt(told[r].substring(2, 3));
            w.into[r] = told[r].endsWith("-") ? NONE : Integer.parseInt(told[r].substring(3));
        }
        for (int g = 0; g < who.length; g++) {
            w.at[g] = Integer.parseInt(who[g]);
        }
        now = w;
        kept = null;
        page = "";
        read++;
        return told.length;
    }

    int reach(int reach, int what) {
        if (noReach(reach)) {
            return UNKNOWN;
        }
        switch (what) {
            case 0: return now.kind[reach];
            case 1: return now.flow[reach];
            case 2: return now.wild[reach];
            case 3: return now.into[reach];
            case 4: return now.water(reach);
            case 5: return now.out(reach);
            case 6: return now.floods(reach) ? 1 : 0;
            case 7: return now.bitsAt(reach);
            case 8: return wilds(reach);
            case 9: return rainFor(reach);
            case 10: return barge(reach)[0];
            case 11: return barge(reach)[1];
            case 12: return now.source(reach) ? 1 : 0;
            default: return OUTSIDE;
        }
    }

    private int wilds(int reach) {
        int bits = 0;
        for (int w = 0; w <= 9; w++) {
            boolean can = true;
            for (int[] s : now.seen) {
                can &= s[0] != reach || now.floodsBy(reach, s[1], w) == (s[2] == 1);
            }
            bits += can ? 1 << w : 0;
        }
        return bits;
    }

    private int rainFor(int reach) {
        int bits = wilds(reach);
        int best = NONE, fewest = 99;
        for (int more = 0; more <= 20 && bits != 0; more++) {
            int wet = 0, dry = 0;
            for (int w = 0; w <= 9; w++) {
                if ((bits & 1 << w) != 0) {
                    if (now.floodsBy(reach, more, w)) {
                        wet++;
                    } else {
                        dry++;
                    }
                }
            }
            if (Math.max(wet, dry) < fewest) {
                fewest = Math.max(wet, dry);
                best = more;
            }
        }
        return best;
    }

    private int[] barge(int reach) {
        int least = now.water(reach), through = 1;
        for (int r = now.into[reach]; r != NONE; r = now.into[r]) {
            least = Math.min(least, now.water(r));
            through++;
        }
        return new int[] {least, through};
    }

    int as(int reach, int kind) {
        if (noReach(reach)) {
            return UNKNOWN;
        }
        if (kind < 0 || kind > 4) {
            return OUTSIDE;
        }
        int is = now.kind[reach];
        return kind == 0 || is == kind || (is == 4 && kind == 1) ? reach : NONE;
    }

    int governess(int governess) {
        return noGoverness(governess) ? UNKNOWN : now.at[governess];
    }

    int send(int governess, int reach) {
        if (noGoverness(governess) || noReach(reach)) {
            return UNKNOWN;
        }
        int was = now.at[governess];
        now.at[governess] = reach;
        return was;
    }

    int month() {
        if (now == null) {
            return STATE;
        }
        if (now.month >= 999) {
            return FULL;
        }
        now.pass();
        return now.month;
    }

    int rain(int reach, int flow) {
        if (noReach(reach)) {
            return UNKNOWN;
        }
        if (flow < 0 || flow > 9) {
            return OUTSIDE;
        }
        int was = now.flow[reach];
        now.flow[reach] = flow;
        return was;
    }

    int make(int reach, int kind) {
        if (noReach(reach)) {
            return UNKNOWN;
        }
        if (kind < 0 || kind > 4) {
            return OUTSIDE;
        }
        int was = now.kind[reach];
        now.kind[reach] = kind;
        return was;
    }

    int spoil(int reach, int wild) {
        if (noReach(reach)) {
            return UNKNOWN;
        }
        if (wild < 0 || wild > 9) {
            return OUTSIDE;
        }
        int was = now.wild[reach];
        now.wild[reach] = wild;
        return was;
    }

    int plan(int governess, int months, int what) {
        if (noGoverness(governess)) {
            return UNKNOWN;
        }
        if (months < 1 || months > 4 || !(what == 0 || what == 1 || (what >= 10 && what <= 13))) {
            return OUTSIDE;
        }
        int[] best = null;
        int all = (int) Math.pow(reaches(), months);
        for (int code = 0; code < all; code++) {
            int[] row = new int[2 + months];
            int rest = code;
            for (int i = months - 1; i >= 0; i--) {
                row[2 + i] = rest % reaches();
                rest /= reaches();
            }
            World w = now.copy();
            for (int i = 0; i < months; i++) {
                w.at[governess] = row[2 + i];
                w.pass();
            }
            row[0] = w.floodCount();
            row[1] = w.sum(w.wild);
            best = better(best, row);
        }
        return toldOf(best, what);
    }

    int place(int what) {
        if (!(what == 0 || what == 1 || (what >= 10 && what <= 12))) {
            return OUTSIDE;
        }
        if (now == null) {
            return STATE;
        }
        int[] best = null;
        int n = reaches(), all = (int) Math.pow(n, governesses());
        for (int code = 0; code < all; code++) {
            World w = now.copy();
            int[] row = new int[2 + governesses()];
            int rest = code, used = 0;
            for (int g = governesses() - 1; g >= 0; g--) {
                w.at[g] = rest % n;
                row[2 + g] = rest % n;
                used |= 1 << rest % n;
                rest /= n;
            }
            if (Integer.bitCount(used) == governesses()) {
                w.pass();
                row[0] = w.floodCount();
                row[1] = w.sum(w.wild);
                best = better(best, row);
            }
        }
        return toldOf(best, what);
    }

    /** Rows are floods, wild, then where by numbers: the lesser by the first in which they differ. */
    private static int[] better(int[] best, int[] row) {
        for (int i = 0; best != null && i < row.length; i++) {
            if (row[i] != best[i]) {
                return row[i] < best[i] ? row : best;
            }
        }
        return best == null ? row : best;
    }

    private static int toldOf(int[] best, int what) {
        int i = what < 10 ? what : what - 8;
        return best == null || i >= best.length ? NONE : best[i];
    }

    int weirs(int what) {
        if (what != 0 && what != 1) {
            return OUTSIDE;
        }
        if (now == null) {
            return STATE;
        }
        int[] best = null;
        for (int bits = 0; bits < 1 << reaches(); bits++) {
            World w = now.copy();
            boolean besides = true;
            for (int r = 0; r < reaches(); r++) {
                if ((bits & 1 << r) != 0) {
                    besides &= now.kind[r] != 3;
                    w.kind[r] = 3;
                }
            }
            if (besides && w.floodCount() == 0) {
                best = better(best, new int[] {Integer.bitCount(bits), bits});
            }
        }
        return best == null ? NONE : best[what];
    }

    int odds(int reach, int what) {
        if (noReach(reach)) {
            return UNKNOWN;
        }
        if (what != 0 && what != 1) {
            return OUTSIDE;
        }
        List<Integer> sources = new ArrayList<>();
        for (int r = 0; r < reaches(); r++) {
            if (now.source(r)) {
                sources.add(r);
            }
        }
        int all = 1 << 2 * sources.size(), wet = 0;
        World w = now.copy();
        for (int code = 0; code < all; code++) {
            for (int i = 0; i < sources.size(); i++) {
                w.flow[sources.get(i)] = now.flow[sources.get(i)] + (code >> 2 * i & 3);
            }
            wet += w.floods(reach) ? 1 : 0;
        }
        int common = BigInteger.valueOf(wet).gcd(BigInteger.valueOf(all)).intValue();
        return what == 0 ? wet / common : all / common;
    }

    int see(int reach, int more, boolean floods) {
        if (noReach(reach)) {
            return UNKNOWN;
        }
        if (more < 0 || more > 20) {
            return OUTSIDE;
        }
        if (now.seen.size() == 6) {
            return FULL;
        }
        now.seen.add(new int[] {reach, more, floods ? 1 : 0});
        return now.seen.size();
    }

    int forget() {
        int had = now == null ? 0 : now.seen.size();
        if (now != null) {
            now.seen.clear();
        }
        return had;
    }

    int years(int months, int seed, int what) {
        if (months < 1 || months > 60 || seed < 0 || what < 0 || what > 2) {
            return OUTSIDE;
        }
        if (now == null) {
            return STATE;
        }
        World w = now.copy();
        BigInteger next = BigInteger.valueOf(seed);
        int floods = 0;
        for (int i = 0; i < months; i++) {
            next = after(next);
            w.at[0] = draw(next);
            next = after(next);
            int wet = draw(next);
            w.flow[wet] = Math.min(9, w.flow[wet] + 1);
            w.pass();
            floods += w.floodCount();
        }
        return what == 0 ? floods : what == 1 ? w.sum(w.wild) : next.intValueExact();
    }

    private static BigInteger after(BigInteger seed) {
        return seed.multiply(BigInteger.valueOf(1103515245)).add(BigInteger.valueOf(12345)).mod(BigInteger.ONE.shiftLeft(31));
    }

    private int draw(BigInteger seed) {
        return seed.divide(BigInteger.valueOf(65536)).mod(BigInteger.valueOf(reaches())).intValue();
    }

    int image() {
        if (now == null) {
            return STATE;
        }
        kept = now.copy();
        return now.month;
    }

    int restore() {
        if (kept == null) {
            return STATE;
        }
        now = kept.copy();
        return now.month;
    }

    int count(int what) {
        switch (what) {
            case 0: return reaches();
            case 1: return governesses();
            case 2: return now == null ? 0 : now.sum(now.flow);
            case 3: return now == null ? 0 : now.sum(now.wild);
            case 4: return now == null ? 0 : now.floodCount();
            case 5: return intoSea();
            case 6: return now == null ? 0 : now.month;
            case 7: return now == null ? 0 : now.lessons;
            case 8: return now == null ? 0 : now.seen.size();
            case 9: return page.length();
            case 10: return read;
            default: return OUTSIDE;
        }
    }

    private int intoSea() {
        int sum = 0;
        for (int r = 0; r < reaches(); r++) {
            sum += now.into[r] == NONE ? now.out(r) : 0;
        }
        return sum;
    }

    long digest() {
        List<Integer> told = new ArrayList<>();
        for (int r = 0; r < reaches(); r++) {
            for (int what = 0; what <= 12; what++) {
                told.add(reach(r, what));
            }
            told.add(odds(r, 0));
            told.add(odds(r, 1));
        }
        for (int g = 0; g < governesses(); g++) {
            told.add(governess(g));
            for (int what : new int[] {0, 1, 10, 11}) {
                told.add(plan(g, 2, what));
            }
        }
        if (now != null) {
            for (int what : new int[] {0, 1, 10, 11, 12}) {
                told.add(place(what));
            }
            told.add(weirs(0));
            told.add(weirs(1));
        }
        for (char c : page.toCharArray()) {
            told.add((int) c);
        }
        for (int what = 0; what <= 10; what++) {
            told.add(count(what));
        }
        long h = 1231;
        for (int number : told) {
            h = 31 * h + number;
        }
        return h;
    }
}
