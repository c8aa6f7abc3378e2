import java.util.ArrayDeque;
import java.util.ArrayList;
import java.util.Arrays;
import java.util.HashSet;
import java.util.List;
import java.util.Set;
import java.util.TreeSet;

/**
 * The document once more, in the plainest way and with no regard to speed or memory: the random runs
 * of FuzzTest hold StarTales against it. Written apart from StarTales, so that the two share no code.
 */
final class PlainTales implements Cloneable {
    static final class Star implements Cloneable {
        int column, row, bright, wc, wr;

        Star copy() {
            Star s = new Star();
            s.column = column;
            s.row = row;
            s.bright = bright;
            s.wc = wc;
            s.wr = wr;
            return s;
        }
    }

    static final class Refused extends RuntimeException {
        private static final long serialVersionUID = 1L;
    }

    /** All that is KEPT. */
    static final class World {
        Star[] stars = new Star[24];
        int hour, night, clouds, sightC = 4, sightR = 3, x = 1;
        boolean[] land = new boolean[288];
        Integer[] ships = new Integer[6];

        World copy() {
            World w = new World();
            for (int i = 0; i < 24; i++) {
                w.stars[i] = stars[i] == null ? null : stars[i].copy();
            }
            w.hour = hour;
            w.night = night;
            w.clouds = clouds;
            w.sightC = sightC;
            w.sightR = sightR;
            w.x = x;
            w.land = land.clone();
            w.ships = ships.clone();
            return w;
        }

        void night() {
            night++;
            for (Star s : stars) {
                if (s != null) {
                    s.column = (s.column + s.wc + 24) % 24;
                    s.row = clamp(s.row + s.wr, 0, 11);
                }
            }
        }

        void pass() {
            if (++hour == 24) {
                hour = 0;
                night();
            }
        }

        int stands(int i) {
            return (stars[i].column + hour) % 24;
        }
    }

    World w = new World();
    World kept = null;
    String law = "";
    String tale = "";
    StringBuilder tape = new StringBuilder();

    static int clamp(int v, int lo, int hi) {
        return v < lo ? lo : v > hi ? hi : v;
    }

    static boolean in(int v, int lo, int hi) {
        return v >= lo && v <= hi;
    }

    static boolean place(int x, int y) {
        return in(x, 0, 23) && in(y, 0, 11);
    }

    boolean told(int i) {
        return in(i, 0, 23) && w.stars[i] != null;
    }

    boolean isShip(int s) {
        return in(s, 0, 5) && w.ships[s] != null;
    }

    boolean star(int i, int c, int r, int b) {
        if (!in(i, 0, 23) || !place(c, r) || !in(b, 1, 9)) {
            return false;
        }
        w.stars[i] = new Star();
        w.stars[i].column = c;
        w.stars[i].row = r;
        w.stars[i].bright = b;
        return true;
    }

    boolean walk(int i, int c, int r) {
        if (!told(i) || !in(c, -3, 3) || !in(r, -3, 3)) {
            return false;
        }
        w.stars[i].wc = c;
        w.stars[i].wr = r;
        return true;
    }

    boolean gone(int i) {
        if (!told(i)) {
            return false;
        }
        w.stars[i] = null;
        return true;
    }

    boolean hour(int h) {
        if (in(h, 0, 23)) {
            w.hour = h;
        }
        return in(h, 0, 23);
    }

    boolean clouds(int b) {
        if (in(b, 0, (1 << 24) - 1)) {
            w.clouds = b;
            return true;
        }
        return false;
    }

    boolean sight(int c, int r) {
        if (!in(c, 0, 11) || !in(r, 0, 11)) {
            return false;
        }
        w.sightC = c;
        w.sightR = r;
        return true;
    }

    boolean land(int x, int y, boolean is) {
        if (!place(x, y)) {
            return false;
        }
        for (Integer s : w.ships) {
            if (s != null && s == 24 * y + x) {
                return false;
            }
        }
        w.land[24 * y + x] = is;
        return true;
    }

    boolean ship(int s, int x, int y) {
        if (!in(s, 0, 5) || !place(x, y) || w.land[24 * y + x]) {
            return false;
        }
        w.ships[s] = 24 * y + x;
        return true;
    }

    int feed(int... v) {
        if (tape.length() + 20 > 220) {
            return -1;
        }
        for (int n : v) {
            for (int k = 3; k >= 0; k--) {
                tape.append((char) (n >>> 8 * k & 255));
            }
        }
        return tape.length();
    }

    String take(int n) {
        if (tape.length() < n) {
            return null;
        }
        String t = tape.substring(0, n);
        tape.setLength(0);
        return t;
    }

    int law(int n) {
        if (!in(n, 1, 200)) {
            return -1;
        }
        String t = take(n);
        if (t == null) {
            return -1;
        }
        int fault = lawFault(t);
        if (fault != 0) {
            return fault;
        }
        law = t;
        return t.split(";").length;
    }

    /** A machine of states and open brackets, not a reader of the grammar: to find the FAULTS another way. */
    static int lawFault(String t) {
        String state = "clause";
        ArrayDeque<Character> open = new ArrayDeque<>();
        int clauses = 0;
        int digits = 0;
        boolean right = false;
        boolean amount = false;
        for (int at = 0; at <= t.length(); at++) {
            char c = at < t.length() ? t.charAt(at) : (char) 1000;
            boolean isDigit = c >= '0' && c <= '9';
            if (state.equals("clause")) {
                if ("vjwgq".indexOf(c) < 0) {
                    return -1000 - at;
                }
                if (++clauses > 14) {
                    return -4000 - at;
                }
                amount = "wgq".indexOf(c) >= 0;
                state = amount ? "factor" : "open";
                continue;
            }
            if (state.equals("open")) {
                if (c != '(') {
                    return -1000 - at;
                }
                open.push('(');
                amount = false;
                state = "piece";
                continue;
            }
            if (state.equals("done")) {
                if (c == 1000) {
                    return 0;
                }
                if (c != ';') {
                    return -1000 - at;
                }
                state = "clause";
                continue;
            }
            if (state.equals("piece")) {
                right = false;
                if (c == '!' || c == '(') {
                    if (open.size() == 6) {
                        return -5000 - at;
                    }
                    open.push(c);
                    continue;
                }
                state = "factor";
            }
            if (state.equals("factor")) {
                if (c == '[') {
                    if (open.size() == 6) {
                        return -5000 - at;
                    }
                    open.push(c);
                } else if (isDigit) {
                    digits = 1;
                    state = "number";
                } else if ("huimrcknsexyd".indexOf(c) >= 0) {
                    state = "after";
                } else {
                    return -1000 - at;
                }
                continue;
            }
            if (state.equals("number")) {
                if (isDigit) {
                    if (++digits > 5) {
                        return -2000 - at;
                    }
                    continue;
                }
                state = "after";
            }
            if (state.equals("after")) {
                if ("+-*/%".indexOf(c) >= 0) {
                    state = "factor";
                    continue;
                }
                if (!open.isEmpty() && open.peek() == '[') {
                    if (c != ']') {
                        return -1000 - at;
                    }
                    open.pop();
                    continue;
                }
                if (amount) {
                    if (c != '(') {
                        return -1000 - at;
                    }
                    at--;
                    state = "open";
                    continue;
                }
                if (!right) {
                    if (c != '<' && c != '>' && c != '=') {
                        return -1000 - at;
                    }
                    right = true;
                    state = "factor";
                    continue;
                }
                state = "ended";
            }
            // A PIECE has ended.
            while (!open.isEmpty() && open.peek() == '!') {
                open.pop();
            }
            if (c == '&' || c == '|') {
                state = "piece";
            } else if (c == ')') {
                open.pop();
                state = open.isEmpty() ? "done" : "ended";
            } else {
                return -1000 - at;
            }
        }
        throw new IllegalStateException("no end in " + t);
    }

    int tale(int n) {
        if (!in(n, 1, 60)) {
            return -1;
        }
        String t = take(n);
        if (t == null) {
            return -1;
        }
        Set<String> lines = new HashSet<>();
        for (int at = 0; ; at++) {
            char c = at < t.length() ? t.charAt(at) : 0;
            if (at % 3 == 2) {
                if (at == t.length()) {
                    break;
                }
                if (c != ';') {
                    return -1000 - at;
                }
                continue;
            }
            if (c < 'A' || c > 'H') {
                return -1000 - at;
            }
            if (at % 3 == 0) {
                if (at / 3 == 12) {
                    return -4000 - at;
                }
                if (at + 1 < t.length() && lines.contains(t.substring(at, at + 2))) {
                    return -6000 - at;
                }
                continue;
            }
            if (c == t.charAt(at - 1)) {
                return -3000 - at;
            }
            lines.add("" + t.charAt(at - 1) + c);
            lines.add("" + c + t.charAt(at - 1));
        }
        tale = t;
        return lines.size() / 2;
    }

    int starIs(int i, int what) {
        if (!told(i) || !in(what, 0, 5)) {
            return -1;
        }
        Star s = w.stars[i];
        return new int[] {s.column, s.row, s.bright, w.stands(i), s.wc + 3, s.wr + 3}[what];
    }

    // ---- the law, asked straight from its text

    private String text;
    private int at;
    private final int[] letters = new int[128];

    private int factor() {
        char c = text.charAt(at);
        if (c == '[') {
            at++;
            int v = sum();
            at++;
            return v;
        }
        if (c < '0' || c > '9') {
            at++;
            return letters[c];
        }
        int v = 0;
        while (at < text.length() && text.charAt(at) >= '0' && text.charAt(at) <= '9') {
            v = 10 * v + text.charAt(at++) - '0';
        }
        return v;
    }

    private int term() {
        int v = factor();
        while (at < text.length() && "*/%".indexOf(text.charAt(at)) >= 0) {
            char op = text.charAt(at++);
            int b = factor();
            if (op == '*') {
                v *= b;
            } else if (b == 0) {
                throw new Refused();
            } else {
                v = op == '/' ? v / b : v % b;
            }
        }
        return v;
    }

    private int sum() {
        int v = term();
        while (at < text.length() && "+-".indexOf(text.charAt(at)) >= 0) {
            v = text.charAt(at++) == '+' ? v + term() : v - term();
        }
        return v;
    }

    /** Where the text that is cut at a sign outside all brackets is cut. */
    private static List<String> cut(String t, char sign) {
        List<String> parts = new ArrayList<>();
        int deep = 0;
        int from = 0;
        for (int k = 0; k < t.length(); k++) {
            char c = t.charAt(k);
            if (c == '(' || c == '[') {
                deep++;
            } else if (c == ')' || c == ']') {
                deep--;
            } else if (c == sign && deep == 0) {
                parts.add(t.substring(from, k));
                from = k + 1;
            }
        }
        parts.add(t.substring(from));
        return parts;
    }

    private boolean condition(String t) {
        for (String part : cut(t, '|')) {
            boolean holds = true;
            for (String piece : cut(part, '&')) {
                if (!piece(piece)) {
                    holds = false;
                    break;
                }
            }
            if (holds) {
                return true;
            }
        }
        return false;
    }

    private boolean piece(String t) {
        if (t.charAt(0) == '!') {
            return !piece(t.substring(1));
        }
        if (t.charAt(0) == '(') {
            return condition(t.substring(1, t.length() - 1));
        }
        text = t;
        at = 0;
        int a = sum();
        char op = t.charAt(at++);
        int b = sum();
        return op == '<' ? a < b : op == '>' ? a > b : a == b;
    }

    private boolean holds(String clause) {
        try {
            return condition(clause.substring(clause.indexOf('(') + 1, clause.length() - 1));
        } catch (Refused r) {
            return false;
        }
    }

    private Boolean any(char kind) {
        boolean is = false;
        for (String clause : law.split(";")) {
            if (!clause.isEmpty() && clause.charAt(0) == kind) {
                is = true;
                if (holds(clause)) {
                    return true;
                }
            }
        }
        return is ? false : null;
    }

    private int amount(char kind, int most) {
        for (String clause : law.split(";")) {
            if (!clause.isEmpty() && clause.charAt(0) == kind && holds(clause)) {
                text = clause.substring(0, clause.indexOf('('));
                at = 1;
                try {
                    return clamp(sum(), 0, most);
                } catch (Refused r) {
                    return 0;
                }
            }
        }
        return 0;
    }

    private void letters(World w) {
        Arrays.fill(letters, 0);
        letters['h'] = w.hour;
        letters['u'] = w.night;
    }

    private void lettersOf(World w, int i) {
        letters['i'] = i;
        letters['m'] = w.stars[i].bright;
        letters['r'] = w.stars[i].row;
        letters['c'] = w.stands(i);
    }

    static int round(int a, int b) {
        int d = ((a - b) % 24 + 24) % 24;
        return Math.min(d, 24 - d);
    }

    boolean sees(World w, int x, int y, int i) {
        if (w.stars[i] == null) {
            return false;
        }
        int c = round(w.stands(i), x);
        int r = Math.abs(w.stars[i].row - y);
        if (c > w.sightC || r > w.sightR || (w.clouds >> w.stands(i) & 1) != 0) {
            return false;
        }
        letters(w);
        lettersOf(w, i);
        letters['x'] = x;
        letters['y'] = y;
        letters['d'] = c + r;
        Boolean v = any('v');
        return v == null || v;
    }

    int seenBits(World w, int x, int y) {
        int bits = 0;
        for (int i = 0; i < 24; i++) {
            if (sees(w, x, y, i)) {
                bits |= 1 << i;
            }
        }
        return bits;
    }

    boolean[][] lines(World w, int x, int y) {
        boolean[][] l = new boolean[24][24];
        int bits = seenBits(w, x, y);
        for (int a = 0; a < 24; a++) {
            for (int b = a + 1; b < 24; b++) {
                if ((bits >> a & 1) != 0 && (bits >> b & 1) != 0) {
                    letters(w);
                    lettersOf(w, a);
                    letters['x'] = x;
                    letters['y'] = y;
                    letters['k'] = b;
                    letters['n'] = w.stars[b].bright;
                    letters['s'] = w.stars[b].row;
                    letters['e'] = w.stands(b);
                    letters['d'] = round(w.stands(a), w.stands(b)) + Math.abs(w.stars[a].row - w.stars[b].row);
                    Boolean j = any('j');
                    l[a][b] = j != null && j;
                    l[b][a] = l[a][b];
                }
            }
        }
        return l;
    }

    int seen(int x, int y) {
        return place(x, y) ? seenBits(w, x, y) : -1;
    }

    int line(int x, int y, int a, int b) {
        if (!place(x, y) || !told(a) || !told(b) || a == b) {
            return -1;
        }
        return lines(w, x, y)[a][b] ? 1 : 0;
    }

    static int[] figures(int bits, boolean[][] l) {
        int[] of = new int[24];
        for (int i = 0; i < 24; i++) {
            of[i] = (bits >> i & 1) != 0 ? i : -1;
        }
        for (int round = 0; round < 24; round++) {
            for (int a = 0; a < 24; a++) {
                for (int b = 0; b < 24; b++) {
                    if (l[a][b]) {
                        of[a] = Math.min(of[a], of[b]);
                    }
                }
            }
        }
        return of;
    }

    static int many(int[] of) {
        Set<Integer> s = new HashSet<>();
        for (int f : of) {
            if (f >= 0) {
                s.add(f);
            }
        }
        return s.size();
    }

    int sky(int x, int y, int what) {
        if (!place(x, y) || !in(what, 0, 6)) {
            return -1;
        }
        int bits = seenBits(w, x, y);
        boolean[][] l = lines(w, x, y);
        int n = 0;
        int best = -1;
        int bestLegs = 0;
        int hold = 0;
        int figures = many(figures(bits, l));
        for (int a = 0; a < 24; a++) {
            int legs = 0;
            for (int b = 0; b < 24; b++) {
                if (l[a][b]) {
                    legs++;
                    if (a < b) {
                        n++;
                        l[a][b] = false;
                        l[b][a] = false;
                        if (many(figures(bits, l)) > figures) {
                            hold++;
                        }
                        l[a][b] = true;
                        l[b][a] = true;
                    }
                }
            }
            if ((bits >> a & 1) != 0 && (best < 0 || legs > bestLegs)) {
                best = a;
                bestLegs = legs;
            }
        }
        int largest = 0;
        int[] of = figures(bits, l);
        for (int f = 0; f < 24; f++) {
            int size = 0;
            for (int i = 0; i < 24; i++) {
                if (of[i] == f) {
                    size++;
                }
            }
            largest = Math.max(largest, size);
        }
        return new int[] {n, figures, largest, n - Integer.bitCount(bits) + figures, hold, best, bestLegs}[what];
    }

    int figure(int x, int y, int i) {
        if (!place(x, y) || !told(i)) {
            return -1;
        }
        int bits = seenBits(w, x, y);
        if ((bits >> i & 1) == 0) {
            return -2;
        }
        int[] of = figures(bits, lines(w, x, y));
        int f = 0;
        for (int k = 0; k < 24; k++) {
            if (of[k] == of[i]) {
                f |= 1 << k;
            }
        }
        return f;
    }

    // ---- tales

    private int ways;
    private int[] first;

    private void match(int bits, boolean[][] l, int[] is, int name, int most) {
        if (ways >= most) {
            return;
        }
        if (name == 8) {
            if (ways == 0) {
                first = is.clone();
            }
            ways++;
            return;
        }
        if (tale.indexOf('A' + name) < 0) {
            match(bits, l, is, name + 1, most);
            return;
        }
        for (int i = 0; i < 24; i++) {
            boolean ok = (bits >> i & 1) != 0;
            for (int other = 0; other < name && ok; other++) {
                if (is[other] == i) {
                    ok = false;
                }
                String here = "" + (char) ('A' + other) + (char) ('A' + name);
                String back = "" + (char) ('A' + name) + (char) ('A' + other);
                List<String> told = Arrays.asList(tale.split(";"));
                if (ok && (told.contains(here) || told.contains(back)) && !l[is[other]][i]) {
                    ok = false;
                }
            }
            if (ok) {
                is[name] = i;
                match(bits, l, is, name + 1, most);
                is[name] = -1;
            }
        }
    }

    private int ways(int bits, boolean[][] l, int most) {
        ways = 0;
        first = null;
        int[] is = new int[8];
        Arrays.fill(is, -1);
        match(bits, l, is, 0, most);
        return ways;
    }

    private boolean canTell(World w, int p) {
        return ways(seenBits(w, p % 24, p / 24), lines(w, p % 24, p / 24), 1) > 0;
    }

    int matched(int x, int y, int what) {
        if (!place(x, y) || !in(what, -1, 7)) {
            return -3;
        }
        if (tale.isEmpty()) {
            return -2;
        }
        int n = ways(seenBits(w, x, y), lines(w, x, y), what == -1 ? 10000 : 1);
        if (what == -1) {
            return n;
        }
        return n == 0 || first[what] < 0 ? -2 : first[what];
    }

    int where(int what) {
        if (!in(what, 0, 1) || tale.isEmpty()) {
            return -1;
        }
        List<Integer> at = new ArrayList<>();
        for (int p = 0; p < 288; p++) {
            if (canTell(w, p)) {
                at.add(p);
            }
        }
        return pick(at, what);
    }

    private static int pick(List<Integer> at, int what) {
        return what == 0 ? at.size() : at.isEmpty() ? -2 : at.get(0);
    }

    int when(int x, int y) {
        if (!place(x, y) || tale.isEmpty()) {
            return -1;
        }
        World v = w.copy();
        int bits = 0;
        for (int h = 0; h < 24; h++) {
            v.hour = h;
            if (canTell(v, 24 * y + x)) {
                bits |= 1 << h;
            }
        }
        return bits;
    }

    private Set<String> patch(int p) {
        Set<String> patch = new TreeSet<>();
        for (int i = 0; i < 24; i++) {
            if (sees(w, p % 24, p / 24, i)) {
                int right = w.stands(i) - p % 24;
                while (right > 12) {
                    right -= 24;
                }
                while (right < -11) {
                    right += 24;
                }
                patch.add((right + 12) + " " + (w.stars[i].row - p / 24 + 12) + " " + w.stars[i].bright);
            }
        }
        return patch;
    }

    int alike(int what) {
        if (!in(what, 0, 2)) {
            return -1;
        }
        List<Set<String>> patches = new ArrayList<>();
        for (int p = 0; p < 288; p++) {
            patches.add(patch(p));
        }
        List<Integer> at = new ArrayList<>();
        int other = -2;
        for (int p = 0; p < 288; p++) {
            for (int q = 0; q < 288; q++) {
                if (p != q && !patches.get(p).isEmpty() && patches.get(p).equals(patches.get(q))) {
                    if (at.isEmpty()) {
                        other = q;
                    }
                    at.add(p);
                    break;
                }
            }
        }
        return what == 2 ? other : pick(at, what);
    }

    int known(int n, int what) {
        if (!in(n, 1, 12) || !in(what, 0, 3)) {
            return -1;
        }
        String t = take(3 * n);
        if (t == null) {
            return -1;
        }
        Set<String> parts = new TreeSet<>();
        for (int k = 0; k < n; k++) {
            parts.add((int) t.charAt(3 * k) + " " + (int) t.charAt(3 * k + 1) + " " + (int) t.charAt(3 * k + 2));
        }
        List<Integer> at = new ArrayList<>();
        for (int p = 0; p < 288; p++) {
            Set<String> patch = patch(p);
            if (what < 2 ? patch.containsAll(parts) : patch.equals(parts)) {
                at.add(p);
            }
        }
        return pick(at, what % 2);
    }

    int named(int n, int what) {
        if (!in(n, 2, 8) || !in(what, 0, 1)) {
            return -1;
        }
        String t = take(2 * n);
        if (t == null) {
            return -1;
        }
        int[] seen = new int[n];
        for (int k = 0; k < n; k++) {
            if (!place(t.charAt(2 * k), t.charAt(2 * k + 1))) {
                return -2;
            }
            seen[k] = seenBits(w, t.charAt(2 * k), t.charAt(2 * k + 1));
        }
        for (int size = 0; size < 8; size++) {
            for (int bits = (1 << size) - 1; bits < 1 << 24; bits = next(bits)) {
                Set<Integer> looks = new HashSet<>();
                for (int s : seen) {
                    if (!looks.add(s & bits)) {
                        break;
                    }
                }
                if (looks.size() == n) {
                    return what == 0 ? size : bits;
                }
                if (bits == 0) {
                    break;
                }
            }
        }
        return -2;
    }

    /** The next number with as many bits. */
    private static int next(int bits) {
        if (bits == 0) {
            return 1 << 30;
        }
        int low = bits & -bits;
        int up = bits + low;
        return up | ((bits ^ up) / low >> 2);
    }

    private int bestWorth;
    private int bestBits;

    private void sell(int i, int bits, int worth, int room, int[] ws, int[] gs) {
        if (room < 0) {
            return;
        }
        if (i < 0) {
            if (worth > bestWorth || (worth == bestWorth && bits < bestBits)) {
                bestWorth = worth;
                bestBits = bits;
            }
            return;
        }
        int more = 0;
        for (int k = 0; k <= i; k++) {
            more += ws[k];
        }
        if (worth + more < bestWorth || (worth + more == bestWorth && bits >= bestBits)) {
            return;
        }
        sell(i - 1, bits, worth, room, ws, gs);
        if (w.stars[i] != null) {
            sell(i - 1, bits | 1 << i, worth + ws[i], room - gs[i], ws, gs);
        }
    }

    int sold(int most, int what) {
        if (!in(most, 0, 999) || !in(what, 0, 2)) {
            return -1;
        }
        int[] ws = new int[24];
        int[] gs = new int[24];
        for (int i = 0; i < 24; i++) {
            if (w.stars[i] != null) {
                letters(w);
                lettersOf(w, i);
                ws[i] = amount('w', 999);
                gs[i] = amount('g', 99);
            }
        }
        bestWorth = -1;
        bestBits = Integer.MAX_VALUE;
        sell(23, 0, 0, most, ws, gs);
        int heavy = 0;
        for (int i = 0; i < 24; i++) {
            heavy += (bestBits >> i & 1) * gs[i];
        }
        return new int[] {bestWorth, bestBits, heavy}[what];
    }

    // ---- ships

    private int goes(World w, int p, int i) {
        int x = p % 24;
        int y = p / 24;
        if (!sees(w, x, y, i)) {
            return p;
        }
        int right = (w.stands(i) - x + 24) % 24;
        int dx = right > 12 ? right - 24 : right;
        int dy = w.stars[i].row - y;
        if (dx == 0 && dy == 0) {
            return p;
        }
        if (Math.abs(dx) >= Math.abs(dy)) {
            x = (x + Integer.signum(dx) + 24) % 24;
        } else {
            y += Integer.signum(dy);
        }
        return w.land[24 * y + x] ? p : 24 * y + x;
    }

    int steered(int s, int i, int n, boolean drawn) {
        if (!isShip(s) || !told(i) || !in(n, 1, 48)) {
            return -1;
        }
        for (int t = 0; t < n; t++) {
            if (drawn) {
                w.clouds = 0;
                for (int c = 0; c < 24; c++) {
                    w.x = (int) ((25173L * w.x + 13849L) % 65536L);
                    letters(w);
                    letters['c'] = c;
                    if (w.x % 10 < amount('q', 10)) {
                        w.clouds |= 1 << c;
                    }
                }
            }
            w.ships[s] = goes(w, w.ships[s], i);
            w.pass();
        }
        return w.ships[s];
    }

    int hours(int n) {
        if (!in(n, 1, 240)) {
            return -1;
        }
        for (int t = 0; t < n; t++) {
            w.pass();
        }
        return w.night;
    }

    private int stars() {
        int n = 0;
        for (Star s : w.stars) {
            n += s == null ? 0 : 1;
        }
        return n;
    }

    int found() {
        if (stars() == 0) {
            return -1;
        }
        String t = take(2 * stars());
        if (t == null) {
            return -1;
        }
        World v = w.copy();
        v.night();
        int bits = 0;
        int k = 0;
        for (int i = 0; i < 24; i++) {
            if (v.stars[i] != null) {
                if (v.stars[i].column != t.charAt(k) || v.stars[i].row != t.charAt(k + 1)) {
                    bits |= 1 << i;
                }
                k += 2;
            }
        }
        return bits;
    }

    private Set<Integer> spread(Set<Integer> at) {
        Set<Integer> to = new TreeSet<>(at);
        for (int p : at) {
            int x = p % 24;
            int y = p / 24;
            int[][] near = {{(x + 1) % 24, y}, {(x + 23) % 24, y}, {x, y + 1}, {x, y - 1}};
            for (int[] q : near) {
                if (place(q[0], q[1]) && !w.land[24 * q[1] + q[0]]) {
                    to.add(24 * q[1] + q[0]);
                }
            }
        }
        return to;
    }

    int meeting(int a, int b, int what) {
        if (!isShip(a) || !isShip(b) || !in(what, 0, 1)) {
            return -1;
        }
        Set<Integer> one = new TreeSet<>(Set.of(w.ships[a]));
        Set<Integer> other = new TreeSet<>(Set.of(w.ships[b]));
        for (int t = 0; t < 300; t++) {
            Set<Integer> shared = new TreeSet<>(one);
            shared.retainAll(other);
            if (!shared.isEmpty()) {
                return what == 0 ? t : shared.iterator().next();
            }
            one = spread(one);
            other = spread(other);
        }
        return -2;
    }

    int fastest(int s, int x, int y, int n, int what) {
        if (!isShip(s) || !place(x, y) || !in(n, 1, 48) || !in(what, 0, 1) || stars() == 0) {
            return -1;
        }
        int best = 99;
        int by = -1;
        for (int i = 0; i < 24; i++) {
            if (w.stars[i] != null) {
                World v = w.copy();
                int p = v.ships[s];
                for (int t = 0; t <= n; t++) {
                    if (p == 24 * y + x) {
                        if (t < best) {
                            best = t;
                            by = i;
                        }
                        break;
                    }
                    p = goes(v, p, i);
                    v.pass();
                }
            }
        }
        return by < 0 ? -2 : what == 0 ? best : by;
    }

    int byTwo(int s, int x, int y, int n, int what) {
        if (!isShip(s) || !place(x, y) || !in(n, 2, 12) || !in(what, 0, 3) || stars() == 0) {
            return -1;
        }
        int best = 99;
        int[] is = null;
        for (int a = 0; a < 24; a++) {
            for (int k = 1; k < n && w.stars[a] != null; k++) {
                World v = w.copy();
                int p = v.ships[s];
                for (int t = 0; t < k; t++) {
                    p = goes(v, p, a);
                    v.pass();
                }
                for (int b = 0; b < 24; b++) {
                    World u = v.copy();
                    int q = p;
                    for (int t = k + 1; t <= n && t < best && w.stars[b] != null; t++) {
                        q = goes(u, q, b);
                        u.pass();
                        if (q == 24 * y + x) {
                            best = t;
                            is = new int[] {t, a, k, b};
                        }
                    }
                }
            }
        }
        return is == null ? -2 : is[what];
    }

    int both(int p, int q, int what) {
        if (!in(p, 0, 287) || !in(q, 0, 287) || !in(what, 0, 2) || (what == 0 && tale.isEmpty())) {
            return -1;
        }
        int bits = seenBits(w, p % 24, p / 24) & seenBits(w, q % 24, q / 24);
        boolean[][] one = lines(w, p % 24, p / 24);
        boolean[][] other = lines(w, q % 24, q / 24);
        int n = 0;
        for (int a = 0; a < 24; a++) {
            for (int b = 0; b < 24; b++) {
                one[a][b] = one[a][b] && other[a][b];
                n += one[a][b] && a < b ? 1 : 0;
            }
        }
        return what == 0 ? ways(bits, one, 10000) : what == 1 ? bits : n;
    }

    int hidden(int x, int y, int what) {
        if (!place(x, y) || !in(what, 0, 1) || tale.isEmpty()) {
            return -1;
        }
        int bits = seenBits(w, x, y);
        boolean[][] l = lines(w, x, y);
        if (ways(bits, l, 1) == 0) {
            return -3;
        }
        for (int size = 1; size <= 4; size++) {
            for (int more = (1 << size) - 1; more < 1 << 24; more = next(more)) {
                if ((more & w.clouds) != 0) {
                    continue;
                }
                int left = bits;
                for (int i = 0; i < 24; i++) {
                    if (w.stars[i] != null && (more >> w.stands(i) & 1) != 0) {
                        left &= ~(1 << i);
                    }
                }
                if (ways(left, l, 1) == 0) {
                    return what == 0 ? size : more;
                }
            }
        }
        return -2;
    }

    int log(int n, int what) {
        if (!in(n, 1, 12) || !in(what, 0, 1) || tale.isEmpty()) {
            return -1;
        }
        String t = take(2 * n);
        if (t == null) {
            return -1;
        }
        for (int k = 0; k < n; k++) {
            if (t.charAt(2 * k) > 1 || (k < n - 1 && t.charAt(2 * k + 1) > 4)) {
                return -2;
            }
        }
        boolean[][] can = new boolean[n][288];
        World v = w.copy();
        for (int k = 0; k < n; k++) {
            for (int p = 0; p < 288; p++) {
                can[k][p] = canTell(v, p);
            }
            v.pass();
        }
        List<Integer> at = new ArrayList<>();
        for (int p = 0; p < 288; p++) {
            int x = p % 24;
            int y = p / 24;
            boolean ok = true;
            for (int k = 0; k < n && ok; k++) {
                ok = place(x, y) && !w.land[24 * y + x] && can[k][24 * y + x] == (t.charAt(2 * k) == 1);
                int how = t.charAt(2 * k + 1);
                x = (x + (how == 1 ? 1 : how == 2 ? 23 : 0)) % 24;
                y += how == 3 ? 1 : how == 4 ? -1 : 0;
            }
            if (ok) {
                at.add(p);
            }
        }
        return pick(at, what);
    }

    int over(int x, int y) {
        if (!place(x, y)) {
            return -1;
        }
        World v = w.copy();
        int bits = 0;
        for (int h = 0; h < 24; h++) {
            v.hour = h;
            for (int i = 0; i < 24; i++) {
                if (v.stars[i] != null && v.stands(i) == x && v.stars[i].row == y) {
                    bits |= 1 << h;
                }
            }
        }
        return bits;
    }

    int home(int x, int y) {
        if (!place(x, y)) {
            return -1;
        }
        int bits = seenBits(w, x, y);
        boolean[][] l = lines(w, x, y);
        World v = w.copy();
        for (int n = 1; n <= 60; n++) {
            v.night();
            if (seenBits(v, x, y) == bits && Arrays.deepEquals(l, lines(v, x, y))) {
                return n;
            }
        }
        return -2;
    }

    boolean seed(int x) {
        if (!in(x, 0, 65535)) {
            return false;
        }
        w.x = x;
        return true;
    }

    int keep() {
        kept = w.copy();
        return stars();
    }

    boolean undo() {
        if (kept == null) {
            return false;
        }
        w = kept.copy();
        return true;
    }

    int check(int n) {
        if (!in(n, 0, 6)) {
            return -2;
        }
        String t = take(4 * n);
        if (t == null) {
            return -2;
        }
        for (int s = 0; s < n; s++) {
            int v = 0;
            for (int k = 0; k < 4; k++) {
                v = v * 256 + t.charAt(4 * s + k);
            }
            if (v != (w.ships[s] == null ? 0 : w.ships[s])) {
                return s;
            }
        }
        return -1;
    }

    int count(int what) {
        int land = 0;
        for (boolean l : w.land) {
            land += l ? 1 : 0;
        }
        int ships = 0;
        for (int s = 0; s < 6; s++) {
            ships |= w.ships[s] == null ? 0 : 1 << s;
        }
        if (what >= 20 && what < 26) {
            return w.ships[what - 20] == null ? -1 : w.ships[what - 20];
        }
        if (!in(what, 0, 10)) {
            return -1;
        }
        return new int[] {w.hour, w.night, w.clouds, stars(), ships, law.isEmpty() ? 0 : law.split(";").length,
            tale.isEmpty() ? 0 : tale.split(";").length, tape.length(), w.x, 100 * w.sightC + w.sightR, land}[what];
    }
}
