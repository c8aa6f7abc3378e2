import java.util.Random;

/** Random runs of calls: each answer of StarTales is held against that of PlainTales. */
public final class FuzzTest {
    private static int wrong = 0;
    private static int calls = 0;
    private final Random random;
    private final long run;
    private final StarTales it = new StarTales();
    private final PlainTales due = new PlainTales();
    private final StringBuilder told = new StringBuilder();
    private final int stars;
    private final boolean isOdd;

    private FuzzTest(long run) {
        this.run = run;
        random = new Random(run);
        stars = random.nextInt(4) == 0 ? 24 : 3 + random.nextInt(9);
        // In some runs arguments out of bounds are common.
        isOdd = random.nextInt(5) == 0;
    }

    private void same(String call, int got, int want) {
        calls++;
        told.append(call).append(" -> ").append(got).append('\n');
        if (got != want) {
            wrong++;
            if (wrong <= 5) {
                int from = Math.max(0, told.length() - 3000);
                System.out.println("run " + run + ":\n.." + told.substring(from) + "   due is " + want);
            }
        }
    }

    private static int bit(boolean is) {
        return is ? 1 : 0;
    }

    private int below(int n) {
        return random.nextInt(n);
    }

    /** Mostly from least to most, now and then beyond. */
    private int pick(int least, int most) {
        if (below(isOdd ? 8 : 60) == 0) {
            int[] odd = {least - 1, most + 1, Integer.MIN_VALUE, Integer.MAX_VALUE, -1, -2, least, most, 0, 1000};
            return odd[below(odd.length)];
        }
        return least + below(most - least + 1);
    }

    private int what(int most) {
        return pick(0, most);
    }

    private String sum(int deep) {
        StringBuilder s = new StringBuilder(term(deep));
        while (below(4) == 0) {
            s.append("+-".charAt(below(2))).append(term(deep));
        }
        return s.toString();
    }

    private String term(int deep) {
        StringBuilder s = new StringBuilder(factor(deep));
        while (below(4) == 0) {
            s.append("*/%".charAt(below(3))).append(factor(deep));
        }
        return s.toString();
    }

    private String factor(int deep) {
        if (deep > 0 && below(6) == 0) {
            return "[" + sum(deep - 1) + "]";
        }
        if (below(3) == 0) {
            int[] most = {10, 25, 12, 1000, 99999};
            return "" + below(most[below(below(8) == 0 ? 5 : 3)]);
        }
        return "" + "huimrcknsexyd".charAt(below(13));
    }

    private String condition(int deep) {
        StringBuilder s = new StringBuilder(piece(deep));
        while (below(4) == 0) {
            s.append("|&".charAt(below(2))).append(piece(deep));
        }
        return s.toString();
    }

    private String piece(int deep) {
        if (deep > 0 && below(7) == 0) {
            return "!" + piece(deep - 1);
        }
        if (deep > 0 && below(7) == 0) {
            return "(" + condition(deep - 1) + ")";
        }
        if (below(3) == 0) {
            return "d<" + below(12);
        }
        return sum(deep) + "<>=".charAt(below(3)) + sum(deep);
    }

    private String clause() {
        int deep = below(7);
        switch (below(9)) {
            case 0:
                return "v(" + condition(deep) + ")";
            case 1:
            case 2:
                return "j(" + condition(deep) + ")";
            case 3:
            case 4:
                return "j(d<" + (2 + below(8)) + ")";
            case 5:
                return "w" + sum(deep) + (below(2) == 0 ? "(1=1)" : "(" + condition(deep) + ")");
            case 6:
                return "g" + sum(deep) + (below(2) == 0 ? "(1=1)" : "(" + condition(deep) + ")");
            case 7:
                return "q" + sum(deep) + (below(2) == 0 ? "(1=1)" : "(" + condition(deep) + ")");
            default:
                return "wm*" + below(40) + "(c<" + below(25) + ")";
        }
    }

    private String spoilt(String text) {
        StringBuilder s = new StringBuilder(text);
        String signs = "huimrcknsexydvjwgq()[]!&|<>=+-*/%;0123456789 ABCDEFGHIaz";
        int times = below(6) == 0 ? 1 + below(3) : 0;
        for (int k = 0; k < times && s.length() > 0; k++) {
            int at = below(s.length());
            switch (below(4)) {
                case 0:
                    s.deleteCharAt(at);
                    break;
                case 1:
                    s.setCharAt(at, signs.charAt(below(signs.length())));
                    break;
                case 2:
                    s.insert(at, signs.charAt(below(signs.length())));
                    break;
                default:
                    s.setLength(at);
            }
        }
        return s.toString();
    }

    private void feed(int a, int b, int c, int d, int e) {
        same("feed(" + a + ", " + b + ", " + c + ", " + d + ", " + e + ")", it.feed(a, b, c, d, e),
                due.feed(a, b, c, d, e));
    }

    private void put(int[] bytes) {
        if (below(12) != 0) {
            same("check(0)", it.check(0), due.check(0));
        }
        for (int from = 0; from < bytes.length; from += 20) {
            int[] v = new int[5];
            for (int k = 0; k < 20; k++) {
                int b = from + k < bytes.length ? bytes[from + k] : below(3) == 0 ? below(256) : 'a';
                v[k / 4] = v[k / 4] << 8 | b;
            }
            feed(v[0], v[1], v[2], v[3], v[4]);
        }
    }

    private void put(String text) {
        int[] bytes = new int[text.length()];
        for (int k = 0; k < bytes.length; k++) {
            bytes[k] = text.charAt(k);
        }
        put(bytes);
    }

    private int near(int n) {
        return below(10) == 0 ? pick(0, 221) : n;
    }

    /** A LAW under which something is SEEN, drawn, worth, heavy and clouded. */
    private String richLaw() {
        String[] seen = {"", "v(m>1);", "v(d<9|i%2=0);", "v(x+y+i>9);v(m=2);", "v(!h=u%24);"};
        String[] lines = {"d<4", "d<7", "1=1", "m=n|d<3", "x<k+9&d<8", "i+1=k|k-i=3", "d<9&!c=e", "6/[i%3]>2|d<5"};
        String[] worth = {"m*7+i", "i*41%13*9", "10", "1000/[r-4]", "[i+1]*97%50"};
        String[] heavy = {"r+1", "m", "i*7%10", "3", "c*2"};
        String[] tenths = {"5", "h%11", "c/3", "10/[c-u]"};
        return seen[below(5)] + "j(" + lines[below(8)] + ");w" + worth[below(5)] + "(1=1);g" + heavy[below(5)]
                + "(1=1);q" + tenths[below(4)] + "(c>" + below(12) + ")";
    }

    private void law() {
        int many = below(5) == 0 ? 13 + below(3) : 1 + below(5);
        StringBuilder s = new StringBuilder();
        for (int k = 0; k < many; k++) {
            String c = many > 12 ? "vjvj".charAt(below(4)) + "(d<" + below(10) + ")" : clause();
            if (s.length() + c.length() < 200) {
                s.append(k == 0 ? "" : ";").append(c);
            }
        }
        String text = below(2) == 0 ? richLaw() : spoilt(s.toString());
        put(text);
        int n = near(text.length());
        told.append("text ").append(text).append('\n');
        same("law(" + n + ")", it.law(n), due.law(n));
    }

    private void tale() {
        int many = below(6) == 0 ? 11 + below(4) : 1 + below(5);
        int names = 2 + below(7);
        StringBuilder s = new StringBuilder();
        for (int k = 0; k < many; k++) {
            for (int tries = 0; tries < 20; tries++) {
                char a = (char) ('A' + below(names));
                char b = (char) ('A' + below(names));
                boolean isNew = a != b && s.indexOf("" + a + b) < 0 && s.indexOf("" + b + a) < 0;
                if (isNew || below(100) == 0) {
                    s.append(s.length() == 0 ? "" : ";").append(a).append(b);
                    break;
                }
            }
        }
        String text = spoilt(s.toString());
        put(text);
        int n = near(text.length());
        told.append("text ").append(text).append('\n');
        same("tale(" + n + ")", it.tale(n), due.tale(n));
    }

    private int x() {
        return below(3) == 0 ? pick(0, 23) : pick(6, 16);
    }

    /** A column from which the stars are likely to be near at this HOUR. */
    private int eye() {
        return below(6) == 0 ? x() : (6 + below(11) + due.w.hour) % 24;
    }

    private int y() {
        return below(3) == 0 ? pick(0, 11) : pick(3, 8);
    }

    private void star() {
        int i = below(8) == 0 ? pick(0, 23) : below(stars);
        int c = x();
        int r = y();
        int b = below(3) == 0 ? pick(1, 9) : 1 + below(2);
        same("star(" + i + ", " + c + ", " + r + ", " + b + ")", bit(it.star(i, c, r, b)), bit(due.star(i, c, r, b)));
        if (below(2) == 0) {
            int wc = pick(-3, 3);
            int wr = pick(-3, 3);
            same("walk(" + i + ", " + wc + ", " + wr + ")", bit(it.walk(i, wc, wr)), bit(due.walk(i, wc, wr)));
        }
    }

    private void set() {
        int a = pick(0, 23);
        int b = pick(0, 11);
        switch (below(10)) {
            case 0:
                same("gone(" + a + ")", bit(it.gone(a)), bit(due.gone(a)));
                break;
            case 1:
            case 2:
                same("hour(" + a + ")", bit(it.hour(a)), bit(due.hour(a)));
                break;
            case 3: {
                int bits = below(1 << 24) & below(1 << 24);
                bits = below(3) == 0 ? pick(0, (1 << 24) - 1) : below(2) == 0 ? 0 : bits;
                same("clouds(" + bits + ")", bit(it.clouds(bits)), bit(due.clouds(bits)));
                break;
            }
            case 4: {
                int c = below(3) != 0 ? 6 + below(6) : pick(0, 11);
                b = below(3) != 0 ? 4 + below(8) : b;
                same("sight(" + c + ", " + b + ")", bit(it.sight(c, b)), bit(due.sight(c, b)));
                break;
            }
            case 5:
            case 6: {
                boolean is = below(4) != 0;
                int lx = x();
                int ly = y();
                same("land(" + lx + ", " + ly + ", " + is + ")", bit(it.land(lx, ly, is)), bit(due.land(lx, ly, is)));
                break;
            }
            case 7:
            case 8: {
                int s = pick(0, 5);
                int sx = x();
                int sy = y();
                same("ship(" + s + ", " + sx + ", " + sy + ")", bit(it.ship(s, sx, sy)), bit(due.ship(s, sx, sy)));
                break;
            }
            default: {
                int x = pick(0, 65535);
                same("seed(" + x + ")", bit(it.seed(x)), bit(due.seed(x)));
            }
        }
    }

    private void look() {
        int x = eye();
        int y = y();
        int a = pick(0, stars - 1);
        int b = pick(0, stars - 1);
        int w;
        switch (below(6)) {
            case 0:
                same("seen(" + x + ", " + y + ")", it.seen(x, y), due.seen(x, y));
                break;
            case 1:
                same("line(" + x + ", " + y + ", " + a + ", " + b + ")", it.line(x, y, a, b), due.line(x, y, a, b));
                break;
            case 2:
            case 3:
                w = what(6);
                same("sky(" + x + ", " + y + ", " + w + ")", it.sky(x, y, w), due.sky(x, y, w));
                break;
            case 4:
                same("figure(" + x + ", " + y + ", " + a + ")", it.figure(x, y, a), due.figure(x, y, a));
                break;
            default:
                w = what(5);
                same("starIs(" + a + ", " + w + ")", it.starIs(a, w), due.starIs(a, w));
        }
    }

    private void tell() {
        int x = eye();
        int y = y();
        int w = pick(-1, below(2) == 0 ? 1 : 7);
        int p = 24 * y() + eye();
        int q = below(3) == 0 ? pick(0, 287) : p + below(3) - 1;
        switch (below(9)) {
            case 0:
            case 1:
            case 2:
                same("matched(" + x + ", " + y + ", " + w + ")", it.matched(x, y, w), due.matched(x, y, w));
                break;
            case 3:
                w = what(1);
                same("where(" + w + ")", it.where(w), due.where(w));
                break;
            case 4:
                same("when(" + x + ", " + y + ")", it.when(x, y), due.when(x, y));
                break;
            case 5:
            case 6:
                w = what(2);
                same("both(" + p + ", " + q + ", " + w + ")", it.both(p, q, w), due.both(p, q, w));
                break;
            case 7:
                w = what(1);
                same("hidden(" + x + ", " + y + ", " + w + ")", it.hidden(x, y, w), due.hidden(x, y, w));
                break;
            default:
                log();
        }
    }

    private void log() {
        int n = below(2) == 0 ? 1 + below(3) : pick(1, 12);
        int size = Math.max(1, Math.min(12, n));
        int[] bytes = new int[2 * size];
        boolean isAny = below(2) == 0;
        for (int k = 0; k < bytes.length; k++) {
            bytes[k] = k % 2 == 0 ? (isAny ? below(2) : 0) : below(5);
            if (below(isOdd ? 20 : 150) == 0) {
                bytes[k] = below(256);
            }
        }
        put(bytes);
        int w = what(1);
        same("log(" + n + ", " + w + ")", it.log(n, w), due.log(n, w));
    }

    private void tell_apart() {
        int w;
        switch (below(4)) {
            case 0:
                w = what(2);
                same("alike(" + w + ")", it.alike(w), due.alike(w));
                break;
            case 1:
                known();
                break;
            case 2: {
                int n = pick(2, 8);
                int size = Math.max(1, Math.min(8, n));
                int[] bytes = new int[2 * size];
                for (int k = 0; k < bytes.length; k++) {
                    bytes[k] = (k % 2 == 0 ? eye() : y()) & 255;
                }
                put(bytes);
                w = what(1);
                same("named(" + n + ", " + w + ")", it.named(n, w), due.named(n, w));
                break;
            }
            default: {
                int most = below(3) != 0 ? pick(0, 60) : pick(0, 999);
                w = what(2);
                same("sold(" + most + ", " + w + ")", it.sold(most, w), due.sold(most, w));
            }
        }
    }

    private void known() {
        // What is told is taken from a PLACE, so that it is known somewhere now and then.
        int x = (6 + below(11) + due.w.hour) % 24;
        int y = 3 + below(6);
        int[] bytes = new int[36];
        int n = 0;
        int keep = below(3) == 0 ? 12 : 1 + below(3);
        for (int i = 0; i < 24 && n < keep; i++) {
            if (due.sees(due.w, x, y, i)) {
                int right = (due.w.stands(i) - x + 24) % 24;
                bytes[3 * n] = (right > 12 ? right - 24 : right) + 12;
                bytes[3 * n + 1] = due.w.stars[i].row - y + 12;
                bytes[3 * n + 2] = due.w.stars[i].bright;
                n++;
            }
        }
        if (n > 1 && below(6) == 0) {
            bytes[below(3 * n)] = below(256);
        }
        put(bytes);
        n = below(20) == 0 ? pick(1, 12) : Math.max(1, n);
        int w = what(3);
        same("known(" + n + ", " + w + ")", it.known(n, w), due.known(n, w));
    }

    private void sail() {
        int s = below(4) == 0 ? pick(0, 5) : below(2);
        int i = pick(0, stars - 1);
        int x = x();
        int y = y();
        if (s >= 0 && s < 6 && due.w.ships[s] != null && below(4) != 0) {
            x = (due.w.ships[s] % 24 + below(7) + 21) % 24;
            y = due.w.ships[s] / 24 + below(5) - 2;
        }
        int w;
        switch (below(7)) {
            case 0:
            case 1: {
                int n = below(2) == 0 ? 1 + below(4) : pick(1, 48);
                boolean drawn = below(2) == 0;
                same("steered(" + s + ", " + i + ", " + n + ", " + drawn + ")", it.steered(s, i, n, drawn),
                        due.steered(s, i, n, drawn));
                same("count(2)", it.count(2), due.count(2));
                same("count(8)", it.count(8), due.count(8));
                break;
            }
            case 2: {
                int n = below(2) == 0 ? 1 + below(4) : pick(1, 240);
                same("hours(" + n + ")", it.hours(n), due.hours(n));
                break;
            }
            case 3: {
                int b = below(4) == 0 ? pick(0, 5) : below(2);
                w = what(1);
                same("meeting(" + s + ", " + b + ", " + w + ")", it.meeting(s, b, w), due.meeting(s, b, w));
                break;
            }
            case 4:
            case 5: {
                int n = pick(1, 48);
                w = what(1);
                same("fastest(" + s + ", " + x + ", " + y + ", " + n + ", " + w + ")", it.fastest(s, x, y, n, w),
                        due.fastest(s, x, y, n, w));
                break;
            }
            default: {
                int n = pick(2, 12);
                w = what(3);
                same("byTwo(" + s + ", " + x + ", " + y + ", " + n + ", " + w + ")", it.byTwo(s, x, y, n, w),
                        due.byTwo(s, x, y, n, w));
            }
        }
    }

    private void walkers() {
        int x = eye();
        int y = y();
        switch (below(3)) {
            case 0:
                same("over(" + x + ", " + y + ")", it.over(x, y), due.over(x, y));
                break;
            case 1:
                same("home(" + x + ", " + y + ")", it.home(x, y), due.home(x, y));
                break;
            default: {
                int[] bytes = new int[48];
                int at = 0;
                for (int i = 0; i < 24; i++) {
                    if (due.w.stars[i] != null) {
                        PlainTales.Star s = due.w.stars[i];
                        bytes[at++] = below(9) == 0 ? below(256) : (s.column + s.wc + 24) % 24;
                        bytes[at++] = below(9) == 0 ? s.row : Math.max(0, Math.min(11, s.row + s.wr));
                    }
                }
                put(bytes);
                same("found()", it.found(), due.found());
            }
        }
    }

    private void keepers() {
        int n;
        switch (below(6)) {
            case 0:
                same("keep()", it.keep(), due.keep());
                break;
            case 1:
                same("undo()", bit(it.undo()), bit(due.undo()));
                break;
            case 2: {
                int[] bytes = new int[24];
                for (int s = 0; s < 6; s++) {
                    int p = due.w.ships[s] == null ? 0 : due.w.ships[s];
                    bytes[4 * s + 2] = p >> 8;
                    bytes[4 * s + 3] = p & 255;
                }
                if (below(2) == 0) {
                    bytes[below(24)] ^= 1 + below(255);
                }
                put(bytes);
                n = pick(0, 6);
                same("check(" + n + ")", it.check(n), due.check(n));
                break;
            }
            case 3:
                feed(random.nextInt(), random.nextInt(), random.nextInt(), random.nextInt(), random.nextInt());
                break;
            default:
                n = below(3) == 0 ? pick(20, 25) : pick(0, 10);
                same("count(" + n + ")", it.count(n), due.count(n));
        }
    }

    private void go(int most) {
        int begun = calls;
        for (int k = 0; k < stars; k++) {
            star();
        }
        for (int s = 0; s < 3; s++) {
            same("ship(" + s + ", 9, " + 3 * s + ")", bit(it.ship(s, 9, 3 * s)), bit(due.ship(s, 9, 3 * s)));
        }
        law();
        tale();
        while (calls - begun < most) {
            int kind = below(100);
            if (kind < 12) {
                star();
            } else if (kind < 24) {
                set();
            } else if (kind < 31) {
                law();
            } else if (kind < 36) {
                tale();
            } else if (kind < 50) {
                look();
            } else if (kind < 64) {
                tell();
            } else if (kind < 72) {
                tell_apart();
            } else if (kind < 84) {
                sail();
            } else if (kind < 92) {
                walkers();
            } else {
                keepers();
            }
        }
        for (int what = -1; what < 27; what++) {
            same("count(" + what + ")", it.count(what), due.count(what));
        }
    }

    public static void main(String[] args) {
        long first = args.length > 0 ? Long.parseLong(args[0]) : 1;
        int runs = args.length > 1 ? Integer.parseInt(args[1]) : 150;
        for (long run = first; run < first + runs; run++) {
            new FuzzTest(run).go(440);
        }
        System.out.println(wrong == 0 ? "all " + calls + " answers are as due" : wrong + " answers are not as due");
        if (wrong != 0) {
            System.exit(1);
        }
    }
}
