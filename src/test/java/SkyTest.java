/** What is seen, drawn and told from PLACES: the empty, the full, the edges and the ways round them. */
public final class SkyTest extends Asking {
    private static final int ALL = 0xFFFFFF;

    /** So many STARS at one PLACE (10, 5), where all are SEEN. */
    private static StarTales heap(int stars, String law) {
        StarTales t = new StarTales();
        for (int i = 0; i < stars; i++) {
            t.star(i, 10, 5, 1);
        }
        law(t, law);
        return t;
    }

    /** A STAR at each column of a row, all as BRIGHT. */
    private static StarTales belt(int row, String law) {
        StarTales t = new StarTales();
        for (int i = 0; i < 24; i++) {
            t.star(i, i, row, 1);
        }
        law(t, law);
        return t;
    }

    private static int apart(int a, int b) {
        int least = 24;
        for (int round = -24; round <= 24; round += 24) {
            least = Math.min(least, Math.abs(a - b + round));
        }
        return least;
    }

    private static void empty() {
        StarTales t = new StarTales();
        for (int y = 0; y < 12; y += 11) {
            for (int x = 0; x < 24; x += 23) {
                due("no stars: seen", t.seen(x, y), 0);
                int[] sky = {0, 0, 0, 0, 0, -1, 0};
                for (int what = 0; what < 7; what++) {
                    due("no stars: sky " + what, t.sky(x, y, what), sky[what]);
                }
                due("no stars: over", t.over(x, y), 0);
                due("no stars: home", t.home(x, y), 1);
                due("no tale: matched", t.matched(x, y, -1), -2);
                due("no tale: matched", t.matched(x, y, 0), -2);
                due("no tale: when", t.when(x, y), -1);
                due("no tale: hidden", t.hidden(x, y, 0), -1);
            }
        }
        due("no tale: where", t.where(0), -1);
        due("no tale: where", t.where(1), -1);
        due("no tale: both", t.both(0, 287, 0), -1);
        due("no stars: both", t.both(0, 287, 1), 0);
        due("no stars: both", t.both(0, 0, 2), 0);
        due("no stars: alike", t.alike(0), 0);
        due("no stars: alike", t.alike(1), -2);
        due("no stars: alike", t.alike(2), -2);
        due("no stars: sold", t.sold(999, 0) + t.sold(999, 1) + t.sold(999, 2), 0);
        due("no stars: sold for nothing", t.sold(0, 1), 0);
        put(t, 12, 12, 1);
        due("no stars: known", t.known(1, 0), 0);
        put(t, 12, 12, 1);
        due("no stars: known just so", t.known(1, 3), -2);
        put(t, 0, 0, 1, 1);
        due("no stars: named", t.named(2, 0), -2);
        tale(t, "AB");
        due("no stars: matched", t.matched(0, 0, -1), 0);
        due("no stars: matched", t.matched(0, 0, 0), -2);
        due("no stars: where", t.where(0), 0);
        due("no stars: where", t.where(1), -2);
        due("no stars: when", t.when(0, 0), 0);
        due("no stars: both", t.both(0, 287, 0), 0);
        due("no stars: hidden", t.hidden(0, 0, 0), -3);
    }

    private static void turning() {
        int[] some = {0, 1, 11, 12, 22, 23};
        for (int column : some) {
            for (int hour : some) {
                StarTales t = new StarTales();
                t.sight(0, 0);
                t.star(23, column, 11, 9);
                due("the hour", t.hour(hour), true);
                int stands = (column + hour) % 24;
                due("it stands", t.starIs(23, 3), stands);
                due("its column", t.starIs(23, 0), column);
                for (int x = 0; x < 24; x++) {
                    due("seen from " + x, t.seen(x, 11), x == stands ? 1 << 23 : 0);
                }
                t.clouds(1 << stands);
                due("clouded", t.seen(stands, 11), 0);
                t.clouds(ALL & ~(1 << stands));
                due("all but it clouded", t.seen(stands, 11), 1 << 23);
                t.clouds(ALL);
                due("all clouded", t.seen(stands, 11), 0);
            }
        }
    }

    private static void sights() {
        int[][] sights = {{4, 3}, {0, 0}, {0, 11}, {11, 0}, {11, 11}, {1, 1}, {10, 10}};
        int[][] stars = {{0, 0}, {23, 11}, {10, 5}, {12, 0}};
        for (int[] sight : sights) {
            for (int[] star : stars) {
                StarTales t = new StarTales();
                if (sight[0] != 4) {
                    t.sight(sight[0], sight[1]);
                }
                due("sight", t.count(9), 100 * sight[0] + sight[1]);
                t.star(0, star[0], star[1], 1);
                for (int place = 0; place < 288; place++) {
                    boolean isNear = apart(place % 24, star[0]) <= sight[0] && Math.abs(place / 24 - star[1]) <= sight[1];
                    due("seen from " + place, t.seen(place % 24, place / 24), isNear ? 1 : 0);
                }
            }
        }
    }

    /** THE WAY in v and in j, at its least and its greatest, round the edge and at any HOUR. */
    private static void ways() {
        int[][] from = {{0, 0, 0, 0}, {0, 0, 11, 0}, {0, 0, 13, 11}, {0, 0, 23, 0}, {23, 11, 0, 0}, {0, 5, 12, 5},
            {0, 0, 12, 11}, {12, 11, 0, 0}, {18, 3, 6, 4}};
        int[] due = {0, 11, 22, 1, 12, 12, 23, 23, 13};
        for (int k = 0; k < from.length; k++) {
            int[] f = from[k];
            for (int hour : new int[] {0, 1, 13, 23}) {
                StarTales t = new StarTales();
                t.sight(11, 11);
                t.hour(hour);
                t.star(0, f[0], f[1], 1);
                t.star(1, f[2], f[3], 1);
                int stands = (f[2] + hour) % 24;
                int between = (Math.min(f[0], f[2]) + hour + 6 * (Math.abs(f[0] - f[2]) / 12)) % 24;
                for (int d = due[k] - 1; d <= due[k] + 1; d++) {
                    if (d >= 0) {
                        law(t, "j(d=" + d + ")");
                        due("j: " + d + " from " + f[0] + " to " + f[2], t.line(between, 6, 0, 1), d == due[k] ? 1 : 0);
                        law(t, "v(d=" + d + ")");
                        boolean isFar = apart(f[0], f[2]) == 12;
                        int x = (f[0] + hour) % 24;
                        due("v: " + d + " from " + x + " to " + stands, t.seen(x, f[1]) & 2, d == due[k] && !isFar ? 2 : 0);
                    }
                }
            }
        }
    }

    private static void lawless() {
        StarTales t = heap(2, "v(1=1)");
        due("without a j none is drawn", t.line(10, 5, 0, 1), 0);
        law(t, "w1(1=1)");
        due("without a v all are seen", t.seen(10, 5), 3);
        due("without a j none is drawn", t.sky(10, 5, 0), 0);
        law(t, "j(1=1)");
        due("without a v all are seen", t.seen(10, 5), 3);
        due("drawn", t.line(10, 5, 0, 1), 1);
        law(t, "v(1=2);j(1=1)");
        due("with a v that never holds none is seen", t.seen(10, 5), 0);
        due("no line between what is not seen", t.line(10, 5, 0, 1), 0);
        law(t, "v(1=2);v(i=0);v(1=2);j(1=1)");
        due("one of the v will do", t.seen(10, 5), 1);
        due("no line to what is not seen", t.line(10, 5, 0, 1), 0);
        law(t, "j(1=2);v(1=1);j(1/0=1);j(1=1)");
        due("one of the j will do", t.line(10, 5, 0, 1), 1);
        law(t, "v(1/0=1);j(1=1)");
        due("a refused v", t.seen(10, 5), 0);
        due("an object without a law", new StarTales().seen(0, 0), 0);
        StarTales none = new StarTales();
        none.star(0, 0, 0, 1);
        none.star(1, 0, 0, 1);
        due("without a law all are seen", none.seen(0, 0), 3);
        due("without a law none is drawn", none.line(0, 0, 0, 1), 0);
        due("without a law: worth", none.sold(999, 0), 0);
    }

    private static void skies(String law, int stars, int... want) {
        StarTales t = heap(stars, law);
        for (int what = 0; what < 7; what++) {
            due(stars + " stars by " + law + ": sky " + what, t.sky(10, 5, what), want[what]);
        }
    }

    private static void figures() {
        skies("v(1=1)", 1, 0, 1, 1, 0, 0, 0, 0);
        skies("j(1=1)", 1, 0, 1, 1, 0, 0, 0, 0);
        skies("j(1=1)", 2, 1, 1, 2, 0, 1, 0, 1);
        skies("j(1=1)", 3, 3, 1, 3, 1, 0, 0, 2);
        skies("v(1=1)", 24, 0, 24, 1, 0, 0, 0, 0);
        skies("j(1=1)", 24, 276, 1, 24, 253, 0, 0, 23);
        skies("j(k-i=1)", 24, 23, 1, 24, 0, 23, 1, 2);
        skies("j(k-i=1|k-i=23)", 24, 24, 1, 24, 1, 0, 0, 2);
        skies("j(k=23)", 24, 23, 1, 24, 0, 23, 23, 23);
        skies("j(i/12=k/12&k-i=1)", 24, 22, 2, 12, 0, 22, 1, 2);
        // Two rings of twelve with a line between: that one alone holds.
        skies("j(i/12=k/12&(k-i=1|k-i=11));j(i=11&k=12)", 24, 25, 1, 24, 2, 1, 11, 3);
        skies("j(i/2=k/2)", 24, 12, 12, 2, 0, 12, 0, 1);
        skies("v(i>22)", 24, 0, 1, 1, 0, 0, 23, 0);
        skies("v(1=2);j(1=1)", 24, 0, 0, 0, 0, 0, -1, 0);
        StarTales t = heap(24, "j(k-i=1)");
        due("all in one", t.figure(10, 5, 0), ALL);
        due("all in one", t.figure(10, 5, 23), ALL);
        law(t, "j(1=2)");
        due("one alone", t.figure(10, 5, 0), 1);
        due("one alone", t.figure(10, 5, 23), 1 << 23);
        law(t, "v(i<23);j(1=1)");
        due("all but one", t.figure(10, 5, 0), ALL >> 1);
        due("not seen", t.figure(10, 5, 23), -2);
        due("a line to what is not seen", t.line(10, 5, 0, 23), 0);
        law(t, "j(i=0&k=23)");
        due("the first and the last", t.line(10, 5, 23, 0), 1);
        due("the first and the last", t.figure(10, 5, 23), 1 | 1 << 23);
    }

    private static void matches(StarTales t, String tale, int ways) {
        tale(t, tale);
        due("ways of " + tale, t.matched(10, 5, -1), ways);
        due("ways of " + tale + " from both", t.both(130, 130, 0), ways);
    }

    private static void matched() {
        StarTales all = heap(24, "j(1=1)");
        matches(all, "AB", 24 * 23);
        matches(all, "GH", 24 * 23);
        due("the first of 24", all.matched(10, 5, 6) * 100 + all.matched(10, 5, 7), 1);
        matches(all, "AB;BC", 10000);
        matches(all, "AB;CD;EF;GH", 10000);
        matches(heap(22, "j(1=1)"), "AB;BC", 22 * 21 * 20);
        matches(heap(23, "j(1=1)"), "AB;BC", 10000);
        matches(heap(10, "j(1=1)"), "AB;CD", 5040);
        matches(heap(1, "j(1=1)"), "AB", 0);
        matches(heap(2, "j(1=1)"), "AB", 2);
        matches(heap(2, "j(1=1)"), "AB;BC", 0);
        matches(heap(3, "j(1=1)"), "AB;BC", 6);
        matches(heap(3, "j(k-i=1)"), "AB;BC", 2);
        matches(heap(3, "j(k-i=1)"), "AB;BC;CA", 0);
        matches(heap(7, "j(1=1)"), "AB;CD;EF;GH", 0);
        matches(heap(8, "j(i/2=k/2)"), "AB;CD;EF;GH", 4 * 3 * 2 * 16);
        matches(heap(8, "j(1=1)"), "AB;CD;EF;GH", 10000);
        // Lines all round: each way is told by its degrees, 10000 of them just, 9920, and 10080.
        matches(heap(24, "j(!(k-i=1|k-i=23|k-i=12&i=0))"), "AB;BC", 10000);
        matches(heap(24, "j(!(k-i=1|k-i=23|k-i=12&i<2))"), "AB;BC", 9920);
        matches(heap(24, "j(!(k-i=1|k-i=23))"), "AB;BC", 10000);

        tale(all, "AB;CD;EF;GH");
        for (int what = 0; what < 8; what++) {
            due("the first way", all.matched(10, 5, what), what);
        }
        tale(all, "HG;AH");
        int[] first = {0, -2, -2, -2, -2, -2, 1, 2};
        for (int what = 0; what < 8; what++) {
            due("names that it has not", all.matched(10, 5, what), first[what]);
        }
        for (int i = 0; i < 16; i++) {
            all.gone(i);
        }
        tale(all, "AB;AC;AD;AE;AF;AG;AH;BC;BD;BE;BF;BG");
        for (int what = 0; what < 8; what++) {
            due("just eight", all.matched(10, 5, what), 16 + what);
        }
        due("just eight", all.matched(10, 5, -1), 10000);
        all.gone(20);
        due("just seven", all.matched(10, 5, -1), 0);
        for (int what = 0; what < 8; what++) {
            due("just seven", all.matched(10, 5, what), -2);
        }
        // The lowest A that can be, though a lower one has lines; then the lowest B that goes with it.
        StarTales t = heap(6, "j(i=0&k=5|i>0&k<5)");
        tale(t, "AB;BC;CA");
        due("A", t.matched(10, 5, 0), 1);
        due("B", t.matched(10, 5, 1), 2);
        due("C", t.matched(10, 5, 2), 3);
        tale(t, "AB");
        due("A", t.matched(10, 5, 0), 0);
        due("B", t.matched(10, 5, 1), 5);
        due("-3 ahead of -2", t.matched(-1, 5, 7), -3);
        due("-3 ahead of -2", t.matched(10, 12, 7), -3);
        due("-3 ahead of -2", t.matched(10, 5, -2), -3);
        due("no such name", t.matched(10, 5, 7), -2);
    }

    private static void whereAndWhen() {
        StarTales t = belt(5, "j(1=1)");
        t.sight(11, 11);
        tale(t, "AB");
        due("everywhere", t.where(0), 288);
        due("everywhere", t.where(1), 0);
        due("at all hours", t.when(23, 11), ALL);
        due("at all hours", t.when(0, 0), ALL);
        for (int place : new int[] {0, 23, 264, 287}) {
            StarTales one = new StarTales();
            one.sight(0, 0);
            one.star(0, place % 24, place / 24, 1);
            one.star(23, place % 24, place / 24, 1);
            law(one, "j(1=1)");
            tale(one, "AB");
            due("at one place", one.where(0), 1);
            due("at one place", one.where(1), place);
            due("at one hour", one.when(place % 24, place / 24), 1);
            due("the hour ahead of it", one.when((place + 23) % 24, place / 24), 1 << 23);
            due("the hour behind it", one.when((place + 1) % 24, place / 24), 2);
            due("another row", one.when(place % 24, 5), 0);
            one.hour(23);
            due("at another hour", one.where(1), place - place % 24 + (place + 23) % 24);
            due("the same hours", one.when(place % 24, place / 24), 1);
            one.land(place % 24, place / 24, true);
            due("on land, too", one.when(place % 24, place / 24), 1);
            one.clouds(ALL);
            due("clouded", one.where(0), 0);
            due("clouded", one.where(1), -2);
            due("clouded", one.when(place % 24, place / 24), 0);
        }
        t = heap(2, "j(h=23)");
        t.sight(11, 0);
        tale(t, "AB");
        due("in the last hour", t.when(10, 5), 1 << 23);
        law(t, "j(h=0)");
        due("in the first hour", t.when(10, 5), 1);
        law(t, "j(u=1)");
        due("the night as it is", t.when(10, 5), 0);
        t.hours(24);
        due("the night as it is", t.when(10, 5), 0b111111111111111111111111 & ~(1 << 12));
        t.walk(0, 0, 3);
        t.hour(23);
        due("no star walks", t.when(10, 5), ALL & ~(1 << 12));
        due("the hour stays", t.count(0), 23);
    }

    /** A LAW that asks for the PLACE, or for the time, is asked anew at each of them. */
    private static void laws() {
        String[] conditions = {"x=10", "y=6", "x=10&y=6", "x=9|x=10", "y=5|y=6", "x+y=16"};
        // From x 6 to 14 and y 2 to 8 both are SEEN.
        int[] places = {7, 9, 1, 14, 18, 7};
        for (int k = 0; k < conditions.length; k++) {
            StarTales t = heap(2, "j(" + conditions[k] + ")");
            tale(t, "AB");
            due("where j holds by " + conditions[k], t.where(0), places[k]);
            put(t, 1, 0);
            due("log where j holds by " + conditions[k], t.log(1, 0), places[k]);
            law(t, "v(" + conditions[k] + ");j(1=1)");
            due("where v holds by " + conditions[k], t.where(0), places[k]);
            put(t, 1, 0);
            due("log where v holds by " + conditions[k], t.log(1, 0), places[k]);
            int many = 0;
            for (int dx = 8; dx <= 16; dx++) {
                for (int dy = 9; dy <= 15; dy++) {
                    many += known(t, 1, 0, dx, dy, 1);
                }
            }
            due("known where v holds by " + conditions[k], many, places[k]);
        }
        StarTales t = heap(2, "v(d=3);j(1=1)");
        tale(t, "AB");
        due("where v holds by the way", t.where(0), 12);
        due("alike where v holds by the way", t.alike(0), 0);
        law(t, "v(h=3);j(1=1)");
        due("by the hour", t.when(10, 5), 1 << 3);
        t.hour(3);
        due("by the hour that is now", t.where(0), 63);
        put(t, 12, 12, 1);
        due("by the hour that is now", t.known(1, 1), 24 * 5 + 13);
        t.star(2, 20, 5, 1);
        t.sight(0, 0);
        due("by the hour that is now", t.alike(1), 24 * 5 + 13);
        due("behind another hour", t.when(20, 5), 0);
        due("the hour that is now", t.alike(2), 24 * 5 + 23);
        put(t, 12, 12, 1);
        due("behind another hour", t.when(20, 5), 0);
        due("the hour that is now", t.known(1, 0), 2);
        put(t, 20, 5, 23, 5);
        due("behind another hour", t.when(20, 5), 0);
        due("the hour that is now", t.named(2, 1), 4);
        t.hour(4);
        due("another hour", t.alike(0), 0);
        put(t, 12, 12, 1);
        due("another hour", t.known(1, 0), 0);
    }

    private static void alike() {
        StarTales t = belt(0, "v(1=1)");
        t.sight(0, 0);
        due("each in the row", t.alike(0), 24);
        due("the first", t.alike(1), 0);
        due("the second", t.alike(2), 1);
        t.sight(11, 11);
        due("everywhere", t.alike(0), 288);
        due("the first", t.alike(1), 0);
        due("the second", t.alike(2), 1);
        t = belt(11, "v(1=1)");
        t.sight(0, 0);
        due("the last row", t.alike(1), 264);
        due("the last row", t.alike(2), 265);
        t = new StarTales();
        t.sight(0, 0);
        t.star(0, 0, 0, 1);
        due("one place alone", t.alike(0), 0);
        due("one place alone", t.alike(1), -2);
        due("one place alone", t.alike(2), -2);
        t.star(1, 23, 11, 1);
        due("the first and the last place", t.alike(0), 2);
        due("the first and the last place", t.alike(1), 0);
        due("the first and the last place", t.alike(2), 287);
        t.star(1, 23, 11, 2);
        due("another one as bright", t.alike(0), 0);
        t.star(2, 5, 5, 2);
        due("the second pair", t.alike(1), 125);
        due("the second pair", t.alike(2), 287);
        t.clouds(1 << 23);
        due("one is clouded", t.alike(0), 0);
        // One PLACE has all of another's PATCH, and a part more.
        for (int part = 0; part < 729; part++) {
            int bright = 1 + part / 81;
            t = new StarTales();
            t.sight(1, 1);
            law(t, "v((x=5|x=15)&y=2)");
            t.star(0, 5, 2, bright);
            t.star(1, 15, 2, bright);
            due("two alike", t.alike(0), 2);
            int columns = part / 9 % 3;
            int rows = part / 27 % 3;
            boolean isSame = columns == 1 && rows == 1 && part % 9 + 1 == bright;
            t.star(2, 14 + columns, 1 + rows, 1 + part % 9);
            due("a part more", t.alike(0), isSame ? 2 : 0);
            t.star(3, 4 + columns, 1 + rows, 1 + part % 9);
            due("two alike again", t.alike(2), 24 * 2 + 15);
        }
        // Round the edge: two stars three columns apart, and the same two over the edge.
        t = new StarTales();
        t.sight(2, 0);
        t.star(0, 10, 4, 1);
        t.star(1, 12, 4, 2);
        t.star(2, 23, 8, 1);
        t.star(3, 1, 8, 2);
        due("over the edge", t.alike(0), 14);
        due("over the edge", t.alike(1), 24 * 4 + 8);
        due("over the edge", t.alike(2), 24 * 8 + 21);
        t.star(3, 2, 8, 2);
        due("over the edge, but further", t.alike(1), 24 * 4 + 8);
        due("over the edge, but further", t.alike(2), 24 * 8 + 21);
        due("over the edge, but further", t.alike(0), 8);
    }

    private static int known(StarTales t, int n, int what, int... bytes) {
        put(t, bytes);
        int answer = t.known(n, what);
        due("the tape is empty behind known()", t.count(7), 0);
        return answer;
    }

    private static void known() {
        StarTales t = new StarTales();
        t.sight(11, 11);
        t.star(0, 12, 5, 9);
        due("11 to the right", known(t, 1, 1, 23, 12, 9), 24 * 5 + 1);
        due("11 to the left", known(t, 1, 1, 1, 12, 9), 24 * 5 + 23);
        due("12 is beyond any sight", known(t, 1, 0, 24, 12, 9), 0);
        due("12 is beyond any sight", known(t, 1, 0, 0, 12, 9), 0);
        due("5 rows up", known(t, 1, 1, 12, 17, 9), 12);
        due("6 rows down", known(t, 1, 1, 12, 6, 9), 24 * 11 + 12);
        due("6 rows up", known(t, 1, 0, 12, 18, 9), 0);
        due("here", known(t, 1, 1, 12, 12, 9), 24 * 5 + 12);
        due("not as bright", known(t, 1, 0, 12, 12, 8), 0);
        due("no such brightness", known(t, 1, 0, 12, 12, 0), 0);
        due("no such brightness", known(t, 1, 0, 12, 12, 10), 0);
        due("far out", known(t, 1, 0, 255, 255, 255), 0);
        due("128 rows beyond are no column", known(t, 1, 0, 12, 128 + 12, 9), 0);
        due("128 rows beyond are no column", known(t, 1, 0, 13, 128 + 12, 9), 0);
        due("128 brighter is no row", known(t, 1, 0, 12, 12, 128 + 9), 0);
        due("far out", known(t, 1, 1, 0, 0, 0), -2);
        t.star(0, 0, 0, 1);
        due("round the edge to the right", known(t, 1, 1, 13, 12, 1), 23);
        due("round the edge to the left", known(t, 1, 1, 11, 12, 1), 1);
        due("11 rows down", known(t, 1, 1, 12, 1, 1), 24 * 11);
        t.star(0, 0, 11, 1);
        due("11 rows up", known(t, 1, 1, 12, 23, 1), 0);
        due("there is no place above the last row", known(t, 1, 0, 12, 11, 1), 0);
        due("there is no place above the last row", known(t, 1, 1, 12, 9, 1), -2);
        t.star(0, 0, 0, 1);
        due("there is no place below the first row", known(t, 1, 0, 12, 13, 1), 0);
        due("there is no place below the first row", known(t, 1, 3, 12, 14, 1), -2);
        t.star(0, 0, 11, 1);
        t.hour(1);
        due("it turns", known(t, 1, 1, 12, 12, 1), 24 * 11 + 1);

        t = new StarTales();
        int[] twelve = new int[36];
        for (int i = 0; i < 12; i++) {
            t.star(i, 6 + i / 3, 5, 1 + i % 3);
            twelve[3 * i] = 12 + i / 3;
            twelve[3 * i + 1] = 12;
            twelve[3 * i + 2] = 1 + i % 3;
        }
        due("twelve", known(t, 12, 0, twelve), 1);
        due("twelve, the first", known(t, 12, 1, twelve), 24 * 5 + 6);
        due("just twelve", known(t, 12, 2, twelve), 1);
        due("just twelve, the first", known(t, 12, 3, twelve), 24 * 5 + 6);
        due("eleven of twelve", known(t, 11, 0, twelve), 1);
        due("eleven of twelve, the first", known(t, 11, 1, twelve), 24 * 5 + 6);
        due("just eleven", known(t, 11, 2, twelve), 0);
        due("just eleven", known(t, 11, 3, twelve), -2);
        due("one of twelve, at four places", known(t, 1, 0, twelve), 4);
        twelve[35] = 9;
        due("the last is not there", known(t, 12, 0, twelve), 0);
        due("the last is not looked at", known(t, 11, 0, twelve), 1);
        t.star(12, 6, 5, 9);
        due("a thirteenth there", known(t, 11, 0, twelve), 1);
        t.sight(0, 0);
        due("just three, but not where the thirteenth is", known(t, 3, 3, twelve), 24 * 5 + 7);
        t.gone(12);
        due("just three", known(t, 3, 3, twelve), 24 * 5 + 6);
        due("just three, anywhere", known(t, 3, 2, twelve), 4);
        due("two of three", known(t, 2, 0, twelve), 4);
        due("just two", known(t, 2, 2, twelve), 0);
        put(t, twelve);
        due("of 40 bytes", t.known(12, 4), -1);
        due("of 40 bytes", t.known(13, 0), -1);
        due("the tape stays", t.count(7), 40);
        t.check(0);
        put(t, 12, 12, 1);
        due("7 are 21 bytes", t.known(7, 0), -1);
        due("the tape stays", t.count(7), 20);
        due("6 are 18 bytes", t.known(6, 0), 0);
        due("the tape is empty", t.known(1, 0), -1);
    }

    private static int named(StarTales t, int n, int what, int... bytes) {
        put(t, bytes);
        int answer = t.named(n, what);
        due("the tape is empty behind named()", t.count(7), 0);
        return answer;
    }

    private static void named() {
        StarTales t = new StarTales();
        t.sight(0, 0);
        t.star(23, 23, 11, 1);
        due("the last star", named(t, 2, 1, 23, 11, 0, 0), 1 << 23);
        due("the last star", named(t, 2, 0, 23, 11, 0, 0), 1);
        due("x 24", named(t, 2, 0, 24, 11, 0, 0), -2);
        due("y 12", named(t, 2, 0, 23, 12, 0, 0), -2);
        due("x 24, the second", named(t, 2, 1, 23, 11, 24, 0), -2);
        due("y 12, the second", named(t, 2, 1, 23, 11, 0, 12), -2);
        due("255", named(t, 2, 1, 23, 11, 255, 0), -2);
        due("255", named(t, 2, 1, 23, 11, 0, 255), -2);
        due("one twice", named(t, 2, 1, 23, 11, 23, 11), -2);
        due("none is seen from either", named(t, 2, 1, 0, 0, 0, 1), -2);
        due("what is behind the second is not looked at", named(t, 2, 1, 23, 11, 0, 0, 24, 12), 1 << 23);

        t = new StarTales();
        t.sight(0, 0);
        for (int i = 0; i < 8; i++) {
            t.star(i, i, 0, 1);
            t.star(8 + i, i, 0, 1);
        }
        int[] eight = new int[16];
        for (int i = 0; i < 8; i++) {
            eight[2 * i] = i;
        }
        due("eight places: seven", named(t, 8, 0, eight), 7);
        due("eight places: the least bits", named(t, 8, 1, eight), 0x7F);
        due("seven of them", named(t, 7, 1, eight), 0x3F);
        eight[14] = 0;
        due("the last is the first", named(t, 8, 0, eight), -2);
        due("the last is not looked at", named(t, 7, 0, eight), 6);
        eight[14] = 24;
        due("the last is none", named(t, 8, 0, eight), -2);
        eight[14] = 23;
        due("the last sees nothing", named(t, 8, 1, eight), 0x7F);
        // Eight places told apart by three stars: each sees another set of them.
        t = new StarTales();
        t.sight(11, 0);
        t.star(4, 4, 0, 1);
        t.star(5, 4, 0, 1);
        t.star(6, 4, 0, 1);
        law(t, "v(i=4&x%2=1|i=5&x/2%2=1|i=6&x/4%2=1)");
        eight[14] = 7;
        due("three", named(t, 8, 0, eight), 3);
        due("three", named(t, 8, 1, eight), 7 << 4);
        due("two for four", named(t, 4, 1, eight), 3 << 4);
        t.star(7, 4, 0, 1);
        law(t, "v(i=4&x%2=1|i=5&x/2%2=1|i=6&x/4%2=1|i=7&x%2=1)");
        due("of like ones the least bits", named(t, 8, 1, eight), 7 << 4);
        t.gone(4);
        due("of like ones the least bits", named(t, 8, 1, eight), 7 << 5);
        t.gone(5);
        due("it can't be", named(t, 8, 1, eight), -2);
    }

    /** Many skies: what is NAMED, held against every set of their stars. */
    private static void namedOfAll() {
        int[] places = new int[16];
        for (int k = 0; k < 8; k++) {
            places[2 * k] = k;
        }
        for (int sky = 0; sky < 300; sky++) {
            StarTales t = new StarTales();
            t.sight(11, 0);
            for (int i = 0; i < 11; i++) {
                t.star(2 * i + 1, 4, 0, 1);
            }
            int m = 3 + sky % 7;
            law(t, "v([i*" + (1 + sky % 5) + "+x*" + (1 + sky / 5 % 6) + "+i*x*" + (1 + sky % 11) + "+" + sky + "]%" + m
                    + "<" + (1 + sky / 3 % (m - 1)) + ")");
            int n = 2 + sky % 7;
            int[] seen = new int[n];
            for (int k = 0; k < n; k++) {
                seen[k] = t.seen(k, 0);
            }
            int best = -2;
            for (int set = 1; set < 1 << 11; set++) {
                int bits = 0;
                for (int i = 0; i < 11; i++) {
                    bits |= (set >> i & 1) << 2 * i + 1;
                }
                boolean isFewer = best == -2 || Integer.bitCount(bits) < Integer.bitCount(best);
                best = isFewer && tellsApart(seen, bits) ? bits : best;
            }
            due("sky " + sky + ": named", named(t, n, 1, places), best);
            due("sky " + sky + ": how many", named(t, n, 0, places), best == -2 ? -2 : Integer.bitCount(best));
        }
    }

    private static boolean tellsApart(int[] seen, int bits) {
        for (int a = 0; a < seen.length; a++) {
            for (int b = 0; b < a; b++) {
                if ((seen[a] & bits) == (seen[b] & bits)) {
                    return false;
                }
            }
        }
        return true;
    }

    private static void sells(StarTales t, int most, int worth, int bits, int heavy) {
        due("worth within " + most, t.sold(most, 0), worth);
        due("which within " + most, t.sold(most, 1), bits);
        due("how heavy within " + most, t.sold(most, 2), heavy);
    }

    private static void sold() {
        StarTales t = heap(24, "w999(1=1);g99(1=1)");
        sells(t, 0, 0, 0, 0);
        sells(t, 98, 0, 0, 0);
        sells(t, 99, 999, 1, 99);
        sells(t, 197, 999, 1, 99);
        sells(t, 198, 1998, 3, 198);
        sells(t, 989, 9 * 999, 0x1FF, 891);
        sells(t, 990, 9990, 0x3FF, 990);
        sells(t, 999, 9990, 0x3FF, 990);
        due("beyond", t.sold(1000, 0), -1);
        law(t, "w999(1=1)");
        sells(t, 0, 24 * 999, ALL, 0);
        law(t, "g99(1=1)");
        sells(t, 999, 0, 0, 0);
        law(t, "w1(1=1);g41(1=1)");
        sells(t, 999, 24, ALL, 24 * 41);
        sells(t, 24 * 41, 24, ALL, 24 * 41);
        sells(t, 24 * 41 - 1, 23, ALL >> 1, 23 * 41);
        law(t, "wi(1=1);g50(1=1)");
        sells(t, 50, 23, 1 << 23, 50);
        sells(t, 49, 0, 0, 0);
        sells(t, 999, 5 + 6 + 7 + 8 + 9 + 10 + 11 + 12 + 13 + 14 + 15 + 16 + 17 + 18 + 19 + 20 + 21 + 22 + 23, ALL & ~31, 950);
        // One that is worth as much as two others, and just as heavy: the least bits are those without the higher one.
        law(t, "w2(i=5);w1(i<2);g2(i=5);g1(1=1)");
        sells(t, 2, 2, 3, 2);
        sells(t, 1, 1, 1, 1);
        sells(t, 3, 3, 0x21, 3);
        sells(t, 4, 4, 0x23, 4);
        // What is clouded, or not SEEN from anywhere, is sold as well; what is gone is not.
        t.clouds(ALL);
        law(t, "v(1=2);w1(1=1);g1(1=1)");
        sells(t, 999, 24, ALL, 24);
        t.gone(0);
        t.gone(23);
        sells(t, 999, 22, ALL >> 1 & ~1, 22);
        sells(t, 1, 1, 2, 1);
    }

    private static void both() {
        StarTales t = belt(0, "j(k-i=1|k-i=23)");
        tale(t, "AB");
        t.sight(1, 11);
        due("none in common", t.both(0, 287 - 12, 1), 0);
        due("one in common", t.both(0, 2, 1), 2);
        due("one in common", t.both(0, 2, 0), 0);
        due("two in common, round the edge", t.both(0, 287, 1), 1 | 1 << 23);
        due("two in common, round the edge", t.both(0, 287, 0), 2);
        due("two in common, round the edge", t.both(287, 0, 2), 1);
        due("one place", t.both(287, 287, 1), 3 << 22 | 1);
        due("one place", t.both(287, 287, 2), 2);
        due("one place", t.both(287, 287, 0), 4);
        StarTales all = heap(24, "j(1=1)");
        tale(all, "AB;CD");
        due("10000 at most", all.both(130, 131, 0), 10000);
        law(all, "v(x=10&i<12|x=11&i>8);j(1=1)");
        due("three in common", all.both(130, 131, 1), 0xE00);
        due("three in common", all.both(130, 131, 2), 3);
        due("three in common", all.both(130, 131, 0), 0);
        tale(all, "AB;BC");
        due("three in common", all.both(130, 131, 0), 6);
        law(all, "j(i+k>x+10&i<3&k<4)");
        due("lines from both alone", all.both(130, 132, 2), all.sky(12, 5, 0));
    }

    private static void hides(StarTales t, int columns, int bits) {
        due("hidden by how many", t.hidden(10, 5, 0), columns);
        due("hidden by which", t.hidden(10, 5, 1), bits);
    }

    private static void hidden() {
        StarTales t = heap(2, "j(1=1)");
        due("no tale", t.hidden(10, 5, 0), -1);
        tale(t, "AB");
        hides(t, 1, 1 << 10);
        due("it can't be told there", t.hidden(15, 5, 0), -3);
        due("it can't be told there", t.hidden(15, 5, 1), -3);
        due("NONE is told first", t.hidden(15, 5, 2), -1);
        due("NONE is told first", t.hidden(24, 5, 1), -1);
        t.clouds(ALL & ~(1 << 10));
        hides(t, 1, 1 << 10);
        t.clouds(1 << 10);
        due("it is hidden", t.hidden(10, 5, 1), -3);
        for (int stars = 2; stars <= 9; stars++) {
            StarTales row = new StarTales();
            for (int i = 0; i < stars; i++) {
                row.star(i, 6 + i, 5, 1);
            }
            law(row, "j(1=1)");
            tale(row, "AB");
            int need = stars - 1;
            hides(row, need > 4 ? -2 : need, need > 4 ? -2 : (1 << need) - 1 << 6);
            if (stars >= 4) {
                tale(row, "AB;CD");
                need = stars - 3;
                hides(row, need > 4 ? -2 : need, need > 4 ? -2 : (1 << need) - 1 << 6);
            }
            if (stars == 9) {
                row.clouds(7 << 6);
                hides(row, 3, 7 << 9);
            }
        }
        // The fewest columns ahead of the least bits: so many that all lines go to, behind one more that they come from.
        for (int few = 1; few <= 4; few++) {
            StarTales two = new StarTales();
            for (int i = 0; i < few; i++) {
                two.star(i, 14 - i, 5, 2);
            }
            for (int i = few; i <= 2 * few; i++) {
                two.star(i, 14 - i, 5, 1);
            }
            two.sight(11, 0);
            law(two, "j(m>n)");
            tale(two, "AB");
            due("fewest", two.hidden(10, 5, 0), few);
            due("fewest", two.hidden(10, 5, 1), (1 << few) - 1 << 15 - few);
        }
        // Over the edge: the least bits are those of the lowest columns, not of the nearest.
        t = new StarTales();
        t.star(0, 23, 5, 1);
        t.star(1, 0, 5, 1);
        t.star(2, 22, 5, 1);
        law(t, "j(1=1)");
        tale(t, "AB");
        due("over the edge", t.hidden(23, 5, 0), 2);
        due("over the edge", t.hidden(23, 5, 1), 1 | 1 << 22);
        tale(t, "AB;BC");
        due("over the edge", t.hidden(23, 5, 1), 1);
        t.hour(1);
        due("where it stands", t.hidden(23, 5, 1), 1);
        t.hour(2);
        due("where it stands", t.hidden(0, 5, 1), 1);
        t.hour(22);
        due("where it stands", t.hidden(21, 5, 1), 1 << 20);
        due("nothing is changed", t.count(2), 0);
    }

    private static void over() {
        StarTales t = belt(11, "v(1=2)");
        t.clouds(ALL);
        for (int x = 0; x < 24; x++) {
            due("at all hours", t.over(x, 11), ALL);
            due("never", t.over(x, 10), 0);
        }
        int[] some = {0, 1, 12, 22, 23};
        for (int column : some) {
            for (int x : some) {
                t = new StarTales();
                t.star(0, column, 0, 1);
                t.hour(5);
                due("over", t.over(x, 0), 1 << (x - column + 24) % 24);
                t.gone(0);
                due("gone", t.over(x, 0), 0);
            }
        }
    }

    private static void home() {
        for (int walk = -3; walk <= 3; walk++) {
            StarTales t = new StarTales();
            t.sight(0, 0);
            t.star(0, 23, 11, 1);
            t.walk(0, walk, 0);
            int nights = walk == 0 ? 1 : 24 / Math.abs(walk);
            due("round by " + walk, t.home(23, 11), nights);
            due("nothing is seen, nothing then", t.home(0, 0), 1);
            t.hour(1);
            due("in the hour that is now", t.home(0, 11), nights);
            t.clouds(1);
            due("clouds as they are", t.home(0, 11), 1);
            due("nothing is changed", t.starIs(0, 0) + t.count(1), 23);
        }
        for (int walk = 1; walk <= 3; walk++) {
            StarTales t = new StarTales();
            t.sight(0, 0);
            t.star(0, 5, 0, 1);
            t.walk(0, 0, -walk);
            due("it stays at row 0", t.home(5, 0), 1);
            t.walk(0, 0, walk);
            due("it never comes back", t.home(5, 0), -2);
            t.star(0, 5, 11, 1);
            t.walk(0, 0, walk);
            due("it stays at row 11", t.home(5, 11), 1);
            t.walk(0, 0, -walk);
            due("it never comes back", t.home(5, 11), -2);
            // Not SEEN before: it comes to row 0, and is gone no more.
            t.star(0, 5, 1, 1);
            t.walk(0, 0, -walk);
            due("what was seen is seen no more", t.home(5, 1), -2);
            due("what was not seen is seen from now on", t.home(5, 0), -2);
        }
        for (int nights : new int[] {1, 2, 59, 60, 61, 62}) {
            StarTales t = heap(2, "j(u%" + nights + "=0)");
            due("the same lines after " + nights, t.home(10, 5), nights > 60 ? -2 : nights);
            law(t, "v(u%" + nights + "=0|i=0)");
            due("the same stars after " + nights, t.home(10, 5), nights > 60 ? -2 : nights);
            t.hours(240);
            due("the next night", t.count(1), 10);
            law(t, "v(u=" + (10 + nights) + "|u=10)");
            due("the same stars after " + nights, t.home(10, 5), nights > 60 ? -2 : nights);
        }
        // The same star, but another one has come to it, or a line of another.
        StarTales t = heap(3, "j(i=0&k=1&u%2=0|i=0&k=2&u%2=1|u%6=0)");
        due("as many lines, but others", t.home(10, 5), 6);
    }

    public static void main(String[] args) {
        empty();
        turning();
        sights();
        ways();
        lawless();
        figures();
        matched();
        whereAndWhen();
        laws();
        alike();
        known();
        named();
        namedOfAll();
        sold();
        both();
        hidden();
        over();
        home();
        tellAndEnd();
    }
}
