import java.util.ArrayList;
import java.util.Collections;
import java.util.List;
import java.util.Random;

/**
 * Promises 18, 19, 31, 32 and 33 under crowded skies, where a search for a way meets many dead ends: the answers are
 * held against a plain search over what seen() and line() tell.
 */
public final class MatchTest extends Asking {
    private final Random random;
    private final StarTales t = new StarTales();
    private final int[][] tale;
    private final String told;
    private int ways;
    private int[] first;

    private MatchTest(long run) {
        random = new Random(run);
        int stars = 8 + random.nextInt(17);
        t.sight(11, 11);
        for (int i = 0; i < stars; i++) {
            t.star(i, 2 + random.nextInt(12), random.nextInt(12), 1 + random.nextInt(9));
        }
        String law = law();
        due("law " + law, law(t, law), 1);
        List<int[]> pairs = new ArrayList<>();
        int names = 3 + random.nextInt(6);
        for (int a = 0; a < names; a++) {
            for (int b = a + 1; b < names; b++) {
                pairs.add(random.nextBoolean() ? new int[] {a, b} : new int[] {b, a});
            }
        }
        Collections.shuffle(pairs, random);
        tale = pairs.subList(0, Math.min(pairs.size(), 2 + random.nextInt(11))).toArray(new int[0][]);
        told = text(tale);
        due("tale " + told, tale(t, told), tale.length);
    }

    private int below(int n) {
        return random.nextInt(n);
    }

    /** Lines between two sides, between some of three groups, by chance, by nearness, or by the place, too. */
    private String law() {
        int p = 2 + below(28);
        int q = 1 + below(p);
        String some = "]%" + p + "<" + q + ")";
        switch (below(5)) {
            case 0:
                return "j([i+k]%2=1&[i*" + below(50) + "+k*k*" + below(50) + some;
            case 1:
                return "j([i/8+k/8]%3>0&[i*i*" + below(50) + "+k*k*" + below(50) + "+i*k" + some;
            case 2:
                return "j([i*" + below(50) + "+k*" + below(50) + "+i*k*" + below(9) + some;
            case 3:
                return "j(d<" + (2 + below(9)) + ")";
            default:
                return "j([i+k]%2=1&[i+k*k+x*" + below(3) + "+y+h" + some;
        }
    }

    private static String text(int[][] tale) {
        StringBuilder s = new StringBuilder();
        for (int[] pair : tale) {
            s.append(s.length() == 0 ? "" : ";").append((char) ('A' + pair[0])).append((char) ('A' + pair[1]));
        }
        return s.toString();
    }

    private boolean[][] lines(int place) {
        int seen = t.seen(place % 24, place / 24);
        boolean[][] lines = new boolean[24][24];
        for (int a = 0; a < 24; a++) {
            for (int b = 0; b < a; b++) {
                if ((seen >> a & seen >> b & 1) != 0 && t.line(place % 24, place / 24, a, b) == 1) {
                    lines[a][b] = true;
                    lines[b][a] = true;
                }
            }
        }
        return lines;
    }

    /** Plain search, name by name and star by star. */
    private void search(int bits, boolean[][] lines, int[] is, int name, int most) {
        if (ways >= most) {
            return;
        }
        if (name == 8) {
            first = ways == 0 ? is.clone() : first;
            ways++;
            return;
        }
        boolean isThere = false;
        for (int[] pair : tale) {
            isThere |= pair[0] == name || pair[1] == name;
        }
        if (!isThere) {
            is[name] = -2;
            search(bits, lines, is, name + 1, most);
            return;
        }
        for (int i = 0; i < 24; i++) {
            boolean fits = (bits >> i & 1) != 0;
            for (int[] pair : tale) {
                int higher = Math.max(pair[0], pair[1]);
                int lower = Math.min(pair[0], pair[1]);
                fits = fits && (higher != name || lines[is[lower]][i]);
            }
            if (fits) {
                is[name] = i;
                search(bits & ~(1 << i), lines, is, name + 1, most);
            }
        }
    }

    private int count(int bits, boolean[][] lines, int most) {
        ways = 0;
        first = null;
        search(bits, lines, new int[8], 0, most);
        return ways;
    }

    private void matched(int place) {
        int x = place % 24;
        int y = place / 24;
        int n = count(t.seen(x, y), lines(place), 10000);
        due(told + " ways", t.matched(x, y, -1), n);
        for (int name = 0; name < 8; name++) {
            due(told + " name " + name, t.matched(x, y, name), n == 0 ? -2 : first[name]);
        }
    }

    private void both(int p, int q) {
        boolean[][] lines = lines(p);
        boolean[][] others = lines(q);
        for (int a = 0; a < 24; a++) {
            for (int b = 0; b < 24; b++) {
                lines[a][b] &= others[a][b];
            }
        }
        int bits = t.seen(p % 24, p / 24) & t.seen(q % 24, q / 24);
        due(told + " both", t.both(p, q, 0), count(bits, lines, 10000));
    }

    private void hidden(int place) {
        int x = place % 24;
        int y = place / 24;
        boolean[][] lines = lines(place);
        int seen = t.seen(x, y);
        int want = count(seen, lines, 1) == 0 ? -3 : -2;
        for (int size = 1; size <= 4 && want == -2; size++) {
            for (int columns = 0; columns < 1 << 14 && want == -2; columns++) {
                if (Integer.bitCount(columns) == size && (columns & 3) == 0) {
                    int left = seen;
                    for (int i = 0; i < 24; i++) {
                        boolean isGone = (seen >> i & 1) != 0 && (columns >> t.starIs(i, 3) & 1) != 0;
                        left = isGone ? left & ~(1 << i) : left;
                    }
                    want = count(left, lines, 1) == 0 ? columns : want;
                }
            }
        }
        due(told + " hidden", t.hidden(x, y, 1), want);
        due(told + " hidden by", t.hidden(x, y, 0), want < 0 ? want : Integer.bitCount(want));
    }

    private void whereAndLog() {
        int places = 0;
        for (int place = 0; place < 288; place++) {
            places += t.matched(place % 24, place / 24, -1) > 0 ? 1 : 0;
        }
        due(told + " where", t.where(0), places);
        put(t, 1, 0);
        due(told + " log", t.log(1, 0), places);
    }

    private void ask(long run) {
        matched(below(288));
        matched(24 * below(12) + 8);
        both(below(288), below(288));
        if (run % 4 == 0) {
            hidden(24 * below(12) + 4 + below(8));
        }
        if (run % 20 == 0) {
            whereAndLog();
        }
        t.clouds(below(1 << 24) & below(1 << 24));
        matched(24 * below(12) + 8);
    }

    /** A ring of five can't be matched where lines go between two sides only; this must be seen soon, not after minutes. */
    private static void hardSky() {
        StarTales t = new StarTales();
        t.sight(11, 11);
        for (int i = 0; i < 24; i++) {
            t.star(i, 7 * i % 24, 5 * i % 12, 1);
        }
        law(t, "j([i+k]%2=1&[i*35+k*k*41+x*0]%25<21)");
        due("hard tale", tale(t, "EG;AE;BF;DE;BH;CG;EH;AC;DF"), 9);
        long begun = System.nanoTime();
        due("hard where", t.where(0), 0);
        due("hard when", t.when(3, 3), 0);
        put(t, new int[24]);
        due("hard log", t.log(12, 0), 288);
        due("within a minute", (System.nanoTime() - begun) / 1000000000L < 60, true);
    }

    public static void main(String[] args) {
        long from = args.length > 0 ? Long.parseLong(args[0]) : 0;
        long runs = args.length > 1 ? Long.parseLong(args[1]) : 200;
        for (long run = from; run < from + runs; run++) {
            new MatchTest(run).ask(run);
        }
        hardSky();
        tellAndEnd();
    }
}
