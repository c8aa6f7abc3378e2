/** Land, ships, hours and nights, logs, what is kept and checked: the empty, the full, the edges, the ways round. */
public final class SeaTest extends Asking {
    private static final int NONE = StarTales.NONE;

    private static int place(int x, int y) {
        return 24 * y + x;
    }

    private static void places() {
        int[][] some = {{0, 0, 0}, {23, 0, 23}, {0, 1, 24}, {0, 11, 264}, {23, 11, 287}, {11, 5, 131}};
        for (int[] p : some) {
            for (int s : new int[] {0, 5}) {
                StarTales t = new StarTales();
                due("a ship", t.ship(s, p[0], p[1]), true);
                due("its place", t.count(20 + s), p[2]);
                due("told ships", t.count(4), 1 << s);
                due("no land under it", t.land(p[0], p[1], true), false);
                due("nor sea", t.land(p[0], p[1], false), false);
                due("land", t.count(10), 0);
                due("it goes", t.ship(s, (p[0] + 1) % 24, p[1]), true);
                due("land behind it", t.land(p[0], p[1], true), true);
                due("a ship on land", t.ship(s, p[0], p[1]), false);
                due("another ship on land", t.ship(5 - s, p[0], p[1]), false);
                due("it stays", t.count(20 + s), place((p[0] + 1) % 24, p[1]));
                due("told ships", t.count(4), 1 << s);
                due("land", t.count(10), 1);
                due("land again", t.land(p[0], p[1], true), true);
                due("land", t.count(10), 1);
                due("sea", t.land(p[0], p[1], false), true);
                due("sea again", t.land(p[0], p[1], false), true);
                due("land", t.count(10), 0);
                due("a ship", t.ship(s, p[0], p[1]), true);
                due("in place of itself", t.ship(s, p[0], p[1]), true);
            }
        }
    }

    private static void fullSea() {
        StarTales t = new StarTales();
        for (int p = 0; p < 288; p++) {
            t.land(p % 24, p / 24, true);
        }
        due("all is land", t.count(10), 288);
        due("no ship", t.ship(0, 23, 11), false);
        due("no ship", t.ship(5, 0, 0), false);
        tale(t, "AB");
        put(t, 0, 0);
        due("nowhere on land", t.log(1, 0), 0);
        put(t, 0, 0);
        due("nowhere on land", t.log(1, 1), -2);
        due("stars over land", t.star(0, 3, 3, 1), true);
        due("seen from land", t.seen(3, 3), 1);
        t = new StarTales();
        for (int s = 0; s < 6; s++) {
            due("all ships at one place", t.ship(s, 9, 9), true);
        }
        due("all ships", t.count(4), 63);
        for (int s = 0; s < 6; s++) {
            due("a ship is there", t.land(9, 9, true), false);
            t.ship(s, 0, 0);
        }
        due("none is there", t.land(9, 9, true), true);
    }

    /** Goes by star 23 from a PLACE, at THE HOUR 0, one PLACE; the star STANDS at a column and a row. */
    private static void goes(int x, int y, int column, int row, int dueX, int dueY) {
        StarTales t = new StarTales();
        t.sight(11, 11);
        t.star(23, column, row, 1);
        t.ship(5, x, y);
        int due = place(dueX, dueY);
        String what = "from " + x + ", " + y + " to a star at " + column + ", " + row;
        due(what + ": fastest", t.fastest(5, dueX, dueY, 1, 0), x == dueX && y == dueY ? 0 : 1);
        due(what, t.steered(5, 23, 1, false), due);
        due(what, t.count(25), due);
        due("the hour", t.count(0), 1);
        if (due == place(x, y)) {
            return;
        }
        t.hour(0);
        t.ship(5, x, y);
        t.land(dueX, dueY, true);
        due(what + ": land", t.steered(5, 23, 1, false), place(x, y));
        due("the hour goes, too", t.count(0), 1);
        t.hour(0);
        t.land(dueX, dueY, false);
        t.clouds(1 << column);
        due(what + ": clouded", t.steered(5, 23, 1, false), place(x, y));
    }

    private static void steps() {
        goes(10, 5, 10, 5, 10, 5);
        goes(0, 0, 0, 0, 0, 0);
        goes(23, 11, 23, 11, 23, 11);
        goes(10, 5, 11, 5, 11, 5);
        goes(10, 5, 9, 5, 9, 5);
        goes(10, 5, 10, 6, 10, 6);
        goes(10, 5, 10, 4, 10, 4);
        // The greater difference; of like ones by x.
        goes(10, 5, 12, 6, 11, 5);
        goes(10, 5, 11, 7, 10, 6);
        goes(10, 5, 11, 6, 11, 5);
        goes(10, 5, 9, 4, 9, 5);
        goes(10, 5, 13, 2, 11, 5);
        goes(10, 5, 7, 8, 9, 5);
        goes(10, 5, 7, 9, 10, 6);
        goes(10, 5, 13, 1, 10, 4);
        // The shorter way, and the greatest difference that can be seen.
        goes(0, 5, 11, 5, 1, 5);
        goes(0, 5, 13, 5, 23, 5);
        goes(23, 5, 0, 5, 0, 5);
        goes(0, 5, 23, 5, 23, 5);
        goes(23, 5, 10, 5, 0, 5);
        goes(12, 5, 0, 5, 12, 5);
        goes(12, 5, 23, 5, 13, 5);
        goes(12, 5, 1, 5, 11, 5);
        // By the rows at the edges: they do not go round.
        goes(5, 0, 5, 11, 5, 1);
        goes(5, 11, 5, 0, 5, 10);
        goes(0, 0, 11, 11, 1, 0);
        goes(0, 0, 10, 11, 0, 1);
        goes(0, 11, 14, 0, 0, 10);
        goes(5, 1, 5, 0, 5, 0);
        goes(5, 10, 5, 11, 5, 11);
    }

    private static void steering() {
        StarTales t = new StarTales();
        t.star(0, 10, 5, 1);
        t.ship(0, 14, 5);
        due("at the end of sight", t.steered(0, 0, 1, false), place(13, 5));
        t.hour(0);
        t.ship(0, 15, 5);
        due("beyond it", t.steered(0, 0, 1, false), place(15, 5));
        t.hour(0);
        t.ship(0, 10, 8);
        due("at the end of sight", t.steered(0, 0, 1, false), place(10, 7));
        t.hour(0);
        t.ship(0, 10, 9);
        due("beyond it", t.steered(0, 0, 1, false), place(10, 9));

        // 48 HOURS: it follows the star one PLACE behind it, round the edge and over two nights.
        t = new StarTales();
        t.star(0, 10, 5, 1);
        t.ship(0, 10, 5);
        due("48 hours", t.steered(0, 0, 48, false), place((10 + 47) % 24, 5));
        due("the hour", t.count(0), 0);
        due("two nights", t.count(1), 2);
        due("47 hours", t.steered(0, 0, 47, false), place((10 + 94) % 24, 5));
        due("the hour", t.count(0), 23);
        due("the night", t.count(1), 3);
        due("one hour", t.steered(0, 0, 1, false), place((10 + 95) % 24, 5));
        due("behind 23 comes 0", t.count(0), 0);
        due("another night", t.count(1), 4);

        // In the last hour of a night it goes by where the star STANDS then; the star walks behind it.
        t = new StarTales();
        t.star(0, 10, 5, 1);
        t.walk(0, -3, 3);
        t.hour(23);
        t.ship(0, 7, 5);
        due("ahead of the night", t.steered(0, 0, 1, false), place(8, 5));
        due("column", t.starIs(0, 0), 7);
        due("row", t.starIs(0, 1), 8);
        due("stands", t.starIs(0, 3), 7);
        due("behind it", t.steered(0, 0, 1, false), place(8, 6));
        // The law's letters are those of each HOUR.
        law(t, "v(h=1&x=8)");
        due("seen in one hour alone", t.steered(0, 0, 5, false), place(8, 7));
        due("the hour", t.count(0), 6);
    }

    private static void drawn() {
        // X goes on from HOUR to HOUR, and from call to call.
        StarTales one = new StarTales();
        StarTales two = new StarTales();
        for (StarTales t : new StarTales[] {one, two}) {
            t.star(0, 10, 5, 1);
            t.ship(0, 6, 3);
            t.seed(65535);
            law(t, "q7(h%2=0);q3(c<12)");
        }
        int at = one.steered(0, 0, 48, true);
        for (int k = 1; k < 48; k++) {
            two.steered(0, 0, 1, true);
        }
        due("hour by hour", two.steered(0, 0, 1, true), at);
        due("clouds", two.count(2), one.count(2));
        due("X", two.count(8), one.count(8));
        int x = one.count(8);
        one.steered(0, 0, 1, false);
        due("not drawn: X stays", one.count(8), x);
        due("not drawn: clouds stay", one.count(2), two.count(2));
        one.hours(1);
        due("hours: X stays", one.count(8), x);
        // Drawn ahead of each HOUR, and by that HOUR.
        StarTales t = new StarTales();
        t.star(0, 10, 5, 1);
        t.ship(0, 6, 5);
        law(t, "q10(h=0)");
        t.clouds(0);
        due("all clouded in the first hour", t.steered(0, 0, 1, true), place(6, 5));
        due("all clouded", t.count(2), 0xFFFFFF);
        due("none in the second", t.steered(0, 0, 1, true), place(6, 5));
        due("none", t.count(2), 0);
        t.hour(23);
        t.star(0, 10, 5, 1);
        t.ship(0, 8, 5);
        due("seen, then clouded", t.steered(0, 0, 2, true), place(9, 5));
        due("all clouded", t.count(2), 0xFFFFFF);
    }

    private static void nights() {
        for (int column : new int[] {0, 1, 2, 3, 12, 20, 21, 22, 23}) {
            for (int columns = -3; columns <= 3; columns++) {
                StarTales t = new StarTales();
                t.star(23, column, 5, 9);
                t.walk(23, columns, 0);
                due("as told", t.starIs(23, 4), columns + 3);
                due("nowhere without a night", t.hours(23), 0);
                due("nowhere without a night", t.starIs(23, 0), column);
                due("a night", t.hours(1), 1);
                due("round", t.starIs(23, 0), (column + columns + 24) % 24);
                due("as told", t.starIs(23, 4), columns + 3);
                due("its row", t.starIs(23, 1), 5);
            }
        }
        for (int row = 0; row < 12; row++) {
            for (int rows = -3; rows <= 3; rows++) {
                StarTales t = new StarTales();
                t.star(0, 7, row, 1);
                t.walk(0, 0, rows);
                due("a night", t.hours(24), 1);
                due("to 0 or 11 at most", t.starIs(0, 1), row + rows < 0 ? 0 : row + rows > 11 ? 11 : row + rows);
                due("as told", t.starIs(0, 5), rows + 3);
                due("nights", t.hours(240), 11);
                due("to 0 or 11 at most", t.starIs(0, 1), rows == 0 ? row : rows < 0 ? 0 : 11);
            }
        }
        StarTales t = new StarTales();
        t.star(0, 7, 5, 1);
        t.star(1, 7, 5, 1);
        t.walk(0, 1, 1);
        t.walk(1, 1, 1);
        t.gone(1);
        t.star(1, 7, 5, 1);
        t.hour(23);
        t.hour(0);
        due("THE HOUR told anew begins no night", t.starIs(0, 0), 7);
        due("nor is it another night", t.count(1), 0);
        t.hours(24);
        due("a star walks", t.starIs(0, 0), 8);
        due("a star in place of one before has no walk", t.starIs(1, 0), 7);
        t.hour(5);
        for (int n : new int[] {1, 18, 240}) {
            int hour = t.count(0);
            int night = t.count(1);
            due("hours " + n, t.hours(n), night + (hour + n) / 24);
            due("the hour", t.count(0), (hour + n) % 24);
        }
    }

    private static int found(StarTales t, int... bytes) {
        put(t, bytes);
        int answer = t.found();
        due("the tape is empty behind found()", t.count(7), 0);
        return answer;
    }

    private static void finding() {
        StarTales t = new StarTales();
        due("no stars, no tape", t.found(), NONE);
        put(t, 0, 0);
        due("no stars", t.found(), NONE);
        due("the tape stays", t.count(7), 20);
        t.check(0);
        t.star(23, 22, 10, 1);
        t.walk(23, 3, 3);
        due("round, and to row 11", found(t, 1, 11), 0);
        due("not round", found(t, 25, 11), 1 << 23);
        due("beyond row 11", found(t, 1, 13), 1 << 23);
        due("where it is now", found(t, 22, 10), 1 << 23);
        due("another row", found(t, 1, 10), 1 << 23);
        due("another column", found(t, 0, 11), 1 << 23);
        t.star(23, 1, 2, 1);
        t.walk(23, -3, -3);
        due("round, and to row 0", found(t, 22, 0), 0);
        due("255", found(t, 255, 0), 1 << 23);
        due("255", found(t, 22, 255), 1 << 23);
        t.hour(23);
        due("not where it STANDS", found(t, 22, 0), 0);
        t.star(0, 5, 5, 1);
        due("by numbers", found(t, 5, 5, 22, 0), 0);
        due("by numbers", found(t, 22, 0, 5, 5), 1 | 1 << 23);
        due("the first alone", found(t, 5, 4, 22, 0), 1);
        due("the last alone", found(t, 5, 5, 22, 1), 1 << 23);
        due("nothing is changed", t.starIs(23, 0), 1);
        int[] all = new int[48];
        for (int i = 0; i < 24; i++) {
            t.star(i, i, i % 12, 1);
            all[2 * i] = i;
            all[2 * i + 1] = i % 12;
        }
        due("all 24", found(t, all), 0);
        all[46] = 22;
        due("all but the last", found(t, all), 1 << 23);
        due("none of 24", found(t, many255(48)), 0xFFFFFF);
        put(t, new int[40]);
        due("40 are not 48", t.found(), NONE);
        due("the tape stays", t.count(7), 40);
        t.check(0);
        for (int i = 10; i < 24; i++) {
            t.gone(i);
        }
        due("just 20", found(t, new int[20]), 0x3FE);
        t.star(10, 0, 0, 1);
        put(t, new int[20]);
        due("20 are not 22", t.found(), NONE);
        due("the tape stays", t.count(7), 20);
        due("an empty tape", t.check(0), NONE);
        due("an empty tape", t.found(), NONE);
    }

    private static int[] many255(int n) {
        int[] bytes = new int[n];
        for (int k = 0; k < n; k++) {
            bytes[k] = 255;
        }
        return bytes;
    }

    private static void meets(int ax, int ay, int bx, int by, int hours, int place) {
        StarTales t = new StarTales();
        t.ship(0, ax, ay);
        t.ship(5, bx, by);
        due("hours", t.meeting(0, 5, 0), hours);
        due("hours, the other way", t.meeting(5, 0, 0), hours);
        due("the place", t.meeting(0, 5, 1), place);
        due("the place, the other way", t.meeting(5, 0, 1), place);
        due("nothing is changed", t.count(20) * 1000 + t.count(25), place(ax, ay) * 1000 + place(bx, by));
        due("nothing is changed", t.count(0), 0);
    }

    private static void meetings() {
        meets(3, 3, 3, 3, 0, place(3, 3));
        meets(0, 0, 1, 0, 1, 0);
        meets(0, 0, 23, 0, 1, 0);
        meets(0, 0, 22, 0, 1, 23);
        meets(0, 0, 12, 0, 6, 6);
        meets(0, 0, 0, 11, 6, place(0, 5));
        meets(0, 11, 0, 0, 6, place(0, 5));
        meets(23, 11, 0, 11, 1, place(0, 11));
        meets(5, 5, 6, 6, 1, place(6, 5));
        meets(0, 0, 12, 11, 12, 11);
        StarTales t = new StarTales();
        t.ship(0, 5, 0);
        t.ship(1, 5, 11);
        for (int x = 0; x < 24; x++) {
            t.land(x, 6, true);
        }
        due("never", t.meeting(0, 1, 0), -2);
        due("never", t.meeting(0, 1, 1), -2);
        due("with itself", t.meeting(0, 0, 0), 0);
        due("with itself", t.meeting(1, 1, 1), place(5, 11));
        t.land(23, 6, false);
        due("through the one gap", t.meeting(0, 1, 0), 12);
        due("through the one gap", t.meeting(0, 1, 1), place(23, 5));
        // Shut in: the other one comes.
        t = new StarTales();
        t.ship(0, 0, 0);
        t.ship(1, 4, 0);
        t.land(23, 0, true);
        t.land(0, 1, true);
        t.land(1, 1, true);
        t.land(2, 0, true);
        due("shut in", t.meeting(0, 1, 0), -2);
        t.land(2, 0, false);
        due("no longer", t.meeting(0, 1, 0), 2);
        due("no longer", t.meeting(0, 1, 1), 2);
    }

    private static void fastest() {
        StarTales t = new StarTales();
        t.ship(5, 10, 5);
        due("no stars", t.fastest(5, 10, 5, 48, 0), NONE);
        due("no stars", t.byTwo(5, 10, 5, 12, 0), NONE);
        t.star(23, 10, 5, 1);
        t.walk(23, 0, 2);
        due("it is there", t.fastest(5, 10, 5, 1, 0), 0);
        due("it is there", t.fastest(5, 10, 5, 1, 1), 23);
        t.star(22, 0, 0, 1);
        due("the lowest told one", t.fastest(5, 10, 5, 48, 1), 22);
        t.gone(22);
        // It follows the star; each PLACE is reached when it comes there first, and not an hour earlier.
        StarTales twin = new StarTales();
        twin.ship(5, 10, 5);
        twin.star(23, 10, 5, 1);
        twin.walk(23, 0, 2);
        boolean[] isReached = new boolean[288];
        isReached[place(10, 5)] = true;
        int last = 0;
        for (int hours = 1; hours <= 48; hours++) {
            int at = twin.steered(5, 23, 1, false);
            if (!isReached[at]) {
                isReached[at] = true;
                last = hours;
                due("within just as many hours", t.fastest(5, at % 24, at / 24, hours, 0), hours);
                due("by the last star", t.fastest(5, at % 24, at / 24, 48, 1), 23);
                due("within fewer", hours == 1 ? -2 : t.fastest(5, at % 24, at / 24, hours - 1, 0), -2);
            }
        }
        due("in the 48th hour", last, 48);
        int beyond = twin.steered(5, 23, 1, false);
        due("the 49th hour", isReached[beyond], false);
        due("the 49th hour", t.fastest(5, beyond % 24, beyond / 24, 48, 1), -2);
        due("nothing is changed", t.count(0) + t.count(1), 0);
        due("nothing is changed", t.count(25), place(10, 5));
        t.land(11, 5, true);
        due("land", t.fastest(5, 11, 5, 48, 0), -2);
        // By the first star; and what was asked before is forgotten.
        t = new StarTales();
        t.ship(0, 10, 5);
        t.star(0, 13, 5, 1);
        due("by star 0", t.fastest(0, 12, 5, 9, 0), 2);
        due("by star 0", t.fastest(0, 12, 5, 9, 1), 0);
        due("it is there", t.fastest(0, 10, 5, 9, 0), 0);
        t.star(1, 10, 8, 1);
        law(t, "v(i=0&h=0|i=1&h=1)");
        due("one hour by star 0", t.fastest(0, 11, 5, 48, 0), 1);
        due("by star 1, in its second hour", t.fastest(0, 10, 6, 48, 0), 2);
        due("by star 1, in its second hour", t.fastest(0, 10, 6, 48, 1), 1);
        due("not by one alone", t.fastest(0, 11, 6, 48, 0), -2);
        due("but by two", t.byTwo(0, 11, 6, 12, 0), 2);
        due("but by two", t.byTwo(0, 11, 6, 12, 3), 1);
        // Of like ones the lowest star; of others the one that is faster.
        t = new StarTales();
        t.ship(0, 10, 5);
        t.star(3, 13, 5, 1);
        t.star(7, 13, 5, 1);
        t.star(1, 10, 8, 1);
        due("the lowest", t.fastest(0, 12, 5, 48, 1), 3);
        due("hours", t.fastest(0, 12, 5, 48, 0), 2);
        t.gone(3);
        due("the other one", t.fastest(0, 12, 5, 48, 1), 7);
        due("never by any", t.fastest(0, 0, 0, 48, 0), -2);
        due("X and clouds stay", t.count(8) + t.count(2), 1);
    }

    private static void byTwo() {
        // Star 0 leads to the right along the row, star 1 up: n hours are n steps of them.
        StarTales t = new StarTales();
        t.sight(11, 11);
        t.ship(0, 0, 0);
        t.star(0, 11, 0, 1);
        t.star(1, 0, 11, 1);
        law(t, "v(i=0|i=1)");
        due("one step is too few", t.byTwo(0, 1, 0, 12, 0), -2);
        due("two hours", t.byTwo(0, 2, 0, 2, 0), 2);
        due("two hours: K", t.byTwo(0, 2, 0, 2, 2), 1);
        due("by the same", t.byTwo(0, 2, 0, 2, 1) + t.byTwo(0, 2, 0, 2, 3), 0);
        due("three hours: not within two", t.byTwo(0, 3, 0, 2, 0), -2);
        due("three hours: within three", t.byTwo(0, 3, 0, 3, 0), 3);
        due("the least K", t.byTwo(0, 3, 0, 3, 2), 1);
        due("twelve", t.byTwo(0, 12, 0, 12, 0), 12);
        due("twelve: K", t.byTwo(0, 12, 0, 12, 2), 1);
        due("within eleven", t.byTwo(0, 12, 0, 11, 0), -2);
        due("thirteen", t.byTwo(0, 13, 0, 12, 0), -2);
        due("thirteen", t.byTwo(0, 13, 0, 12, 3), -2);
        due("nothing is changed", t.count(0) + t.count(20), 0);
        // K of eleven at most: eleven to the right, then one up.
        law(t, "v(i=0&x<11|i=1&x=11)");
        due("eleven and one", t.byTwo(0, 11, 1, 12, 0), 12);
        due("eleven and one: the first", t.byTwo(0, 11, 1, 12, 1), 0);
        due("eleven and one: K", t.byTwo(0, 11, 1, 12, 2), 11);
        due("eleven and one: the second", t.byTwo(0, 11, 1, 12, 3), 1);
        due("eleven and one: within eleven", t.byTwo(0, 11, 1, 11, 3), -2);
        // One hour at least by the second: where the first leads in eleven it is in twelve as well, if it stays.
        due("it stays a while", t.byTwo(0, 11, 0, 12, 0), 11);
        law(t, "v(i=0&h<12&x<11|i=1&h=11)");
        due("the last hour", t.byTwo(0, 11, 1, 12, 3), 1);
        t.land(1, 0, true);
        due("land: it stays where it is", t.byTwo(0, 0, 0, 12, 0), 2);
        due("land: it stays where it is, K", t.byTwo(0, 0, 0, 12, 2), 1);
        due("on land it is never", t.byTwo(0, 1, 0, 12, 0), -2);
        // Of like ones the lowest first star, then K, then the lowest second one.
        t = new StarTales();
        t.ship(0, 10, 5);
        law(t, "v(i=20&h=0|i=21|i=22&h>0|i=23)");
        t.star(20, 14, 5, 1);
        t.star(21, 14, 5, 1);
        t.star(22, 14, 5, 1);
        t.star(23, 14, 5, 1);
        due("the lowest first star", t.byTwo(0, 13, 5, 12, 1), 20);
        due("K", t.byTwo(0, 13, 5, 12, 2), 1);
        due("the lowest second star", t.byTwo(0, 13, 5, 12, 3), 21);
        t.gone(20);
        due("the lowest first star", t.byTwo(0, 13, 5, 12, 1), 21);
        due("the lowest second star", t.byTwo(0, 13, 5, 12, 3), 21);
        t.gone(21);
        due("the lowest first star", t.byTwo(0, 13, 5, 12, 1), 23);
        due("the lowest second star", t.byTwo(0, 13, 5, 12, 3), 22);
        due("hours", t.byTwo(0, 13, 5, 12, 0), 3);
        t.hour(23);
        due("over a night", t.byTwo(0, 13, 5, 12, 0), 3);
        due("the hour stays", t.count(0), 23);
    }

    /** Stars all round a ship, walking and turning: every way BY TWO is gone, and the best of them asked for. */
    private static StarTales amidst() {
        StarTales t = new StarTales();
        t.sight(11, 11);
        for (int i = 0; i < 24; i++) {
            t.star(i, (18 + 5 * i) % 24, i * 7 % 12, 1 + i % 9);
            t.walk(i, i % 7 - 3, i % 5 - 2);
        }
        t.land(14, 4, true);
        t.land(9, 7, true);
        t.ship(0, 12, 6);
        t.hour(19);
        t.clouds(1 << 3 | 1 << 12);
        law(t, "v(!([i+h]%5=0))");
        return t;
    }

    private static void byTwoAmidst() {
        int[] best = new int[288];
        java.util.Arrays.fill(best, Integer.MAX_VALUE);
        for (int first = 0; first < 24; first++) {
            for (int k = 1; k < 12; k++) {
                StarTales t = amidst();
                t.steered(0, first, k, false);
                t.keep();
                for (int second = 0; second < 24; second++) {
                    t.undo();
                    for (int hours = k + 1; hours <= 12; hours++) {
                        int at = t.steered(0, second, 1, false);
                        best[at] = Math.min(best[at], ((hours * 24 + first) * 12 + k) * 24 + second);
                    }
                }
            }
        }
        for (int p = 0; p < 288; p++) {
            StarTales t = amidst();
            int[] want = {best[p] / 24 / 12 / 24, best[p] / 24 / 12 % 24, best[p] / 24 % 12, best[p] % 24};
            for (int what = 0; what < 4; what++) {
                boolean isNever = best[p] == Integer.MAX_VALUE;
                due("by two to " + p + ", what " + what, t.byTwo(0, p % 24, p / 24, 12, what), isNever ? -2 : want[what]);
            }
            if (best[p] != Integer.MAX_VALUE && want[0] > 2) {
                due("by two to " + p + " within fewer", t.byTwo(0, p % 24, p / 24, want[0] - 1, 0), -2);
                due("by two to " + p + " within just so many", t.byTwo(0, p % 24, p / 24, want[0], 3), want[3]);
            }
        }
    }

    private static int log(StarTales t, int n, int what, int... bytes) {
        put(t, bytes);
        int answer = t.log(n, what);
        due("the tape is empty behind log()", t.count(7), 0);
        return answer;
    }

    private static void logs() {
        StarTales t = new StarTales();
        put(t, 0, 0);
        due("no tale", t.log(1, 0), NONE);
        put(t, 2, 0);
        due("no tale, though no such bytes", t.log(1, 0), NONE);
        due("the tape stays", t.count(7), 40);
        t.check(0);
        tale(t, "AB");
        due("never told: all places", log(t, 1, 0, 0), 288);
        due("never told: the first", log(t, 1, 1, 0), 0);
        due("told: none", log(t, 1, 0, 1), 0);
        due("told: none", log(t, 1, 1, 1), -2);
        due("a note of 2", log(t, 1, 0, 2), -2);
        due("a note of 255", log(t, 1, 1, 255), -2);
        due("a way of 5 is not looked at behind the last", log(t, 1, 0, 0, 5), 288);
        due("a way of 255 is not looked at behind the last", log(t, 1, 0, 0, 255), 288);
        due("a way of 4", log(t, 2, 0, 0, 4, 0, 255), 264);
        due("a way of 5", log(t, 2, 0, 0, 5, 0, 0), -2);
        due("a way of 255", log(t, 2, 1, 0, 255, 0, 0), -2);
        due("the last note of 2", log(t, 2, 0, 0, 0, 2, 0), -2);
        due("what is behind it is not looked at", log(t, 2, 0, 0, 0, 0, 9, 9, 9), 288);
        // How it went, over an empty sea: over the edge of rows it can't, over that of columns it can.
        int[] left = {288, 288, 288, 264, 264};
        int[] first = {0, 0, 0, 0, 24};
        for (int how = 0; how <= 4; how++) {
            due("went " + how, log(t, 2, 0, 0, how, 0), left[how]);
            due("went " + how, log(t, 2, 1, 0, how, 0), first[how]);
        }
        int[] up = new int[24];
        int[] down = new int[24];
        int[] round = new int[24];
        for (int k = 0; k < 24; k += 2) {
            up[k + 1] = 3;
            down[k + 1] = 4;
            round[k + 1] = 2;
        }
        due("eleven up", log(t, 12, 0, up), 24);
        due("eleven up", log(t, 12, 1, up), 0);
        due("eleven down", log(t, 12, 0, down), 24);
        due("eleven down", log(t, 12, 1, down), place(0, 11));
        due("eleven round", log(t, 12, 0, round), 288);
        up[23] = 9;
        due("the last way is not looked at", log(t, 12, 0, up), 24);
        up[21] = 5;
        due("the last way but one is", log(t, 12, 0, up), -2);
        up[21] = 3;
        up[22] = 2;
        due("the last note is", log(t, 12, 0, up), -2);
        put(t, 0, 0);
        due("11 are 22 bytes", t.log(11, 0), NONE);
        due("the tape stays", t.count(7), 20);
        due("10 are 20 bytes", t.log(10, 0), 288);
        due("an empty tape", t.log(1, 0), NONE);
        // Land at both ends of a way.
        t.land(23, 5, true);
        due("not on land", log(t, 1, 0, 0), 287);
        due("not on land, nor to it", log(t, 2, 0, 0, 1, 0), 286);
        due("not on land, nor to it round the edge", log(t, 2, 0, 0, 2, 0), 286);
        due("not on land, nor to it", log(t, 2, 0, 0, 3, 0), 262);
        due("it stays on sea", log(t, 2, 0, 0, 0, 0), 287);
    }

    private static void logsOfTales() {
        StarTales t = new StarTales();
        t.sight(0, 0);
        t.star(0, 23, 11, 1);
        t.star(1, 23, 11, 1);
        law(t, "j(1=1)");
        tale(t, "AB");
        due("the last place", log(t, 1, 0, 1), 1);
        due("the last place", log(t, 1, 1, 1), 287);
        due("all but the last place", log(t, 1, 0, 0), 287);
        due("round the edge with the star", log(t, 2, 1, 1, 1, 1), 287);
        due("twelve hours with the star", log(t, 12, 1, 1, 1, 1, 1, 1, 1, 1, 1, 1, 1, 1, 1, 1, 1, 1, 1, 1, 1, 1, 1, 1, 1, 1, 1), 287);
        due("it stays, the star goes", log(t, 2, 1, 1, 0, 1), -2);
        due("it stays, the star comes", log(t, 2, 1, 0, 0, 1), place(0, 11));
        due("the first of them", log(t, 1, 1, 0), 0);
        t.walk(0, 0, -3);
        t.walk(1, 0, -3);
        t.hour(23);
        due("from this hour on", log(t, 1, 1, 1), place(22, 11));
        due("over a night", log(t, 2, 1, 0, 4, 1), place(23, 9));
        due("nothing is changed", t.count(0) + t.count(1), 23);
        due("nothing is changed", t.starIs(0, 1), 11);
        law(t, "j(u=1)");
        due("the lines of the night that comes", log(t, 2, 1, 0, 3, 1), place(23, 7));
    }

    private static void keeping() {
        StarTales t = new StarTales();
        due("none was kept", t.undo(), false);
        t.star(0, 0, 0, 1);
        due("none was kept", t.undo(), false);
        due("nothing is undone", t.count(3), 1);
        t.gone(0);
        due("kept: no stars", t.keep(), 0);
        for (int i = 0; i < 24; i++) {
            t.star(i, 23, 11, 9);
            t.walk(i, 3, -3);
        }
        for (int s = 0; s < 6; s++) {
            t.ship(s, 23, 11);
        }
        t.land(0, 0, true);
        t.hours(47);
        t.clouds(0xFFFFFF);
        t.sight(11, 0);
        t.seed(65535);
        law(t, "v(1=1);j(1=1)");
        tale(t, "AB;BC");
        t.feed(0, 0, 0, 0, 0);
        due("undone", t.undo(), true);
        int[] want = {0, 0, 0, 0, 0, 2, 2, 20, 1, 403, 0};
        for (int what = 0; what < want.length; what++) {
            due("a new one but for law, tale and tape: " + what, t.count(what), want[what]);
        }
        for (int s = 0; s < 6; s++) {
            due("no ship", t.count(20 + s), NONE);
        }
        for (int i = 0; i < 24; i++) {
            due("no star", t.starIs(i, 0), NONE);
            t.star(i, i, i / 2, 1 + i % 9);
            t.walk(i, i % 7 - 3, i / 7 - 3);
        }
        t.hour(23);
        due("kept: all stars", t.keep(), 24);
        due("undone", t.undo(), true);
        t.hours(1);
        due("undone again", t.undo(), true);
        t.star(3, 0, 0, 9);
        t.walk(3, 3, 3);
        t.gone(23);
        due("and again", t.undo(), true);
        int[] third = {3, 1, 4, 2, 3, 0};
        for (int what = 0; what < 6; what++) {
            due("a star told anew", t.starIs(3, what), third[what]);
        }
        int[] last = {23, 11, 6, 22, 23 % 7, 23 / 7};
        for (int what = 0; what < 6; what++) {
            due("the last star", t.starIs(23, what), last[what]);
        }
        due("a walk", t.starIs(3, 4), 3);
        due("all stars", t.count(3), 24);
        t.gone(5);
        due("kept anew", t.keep(), 23);
        t.gone(6);
        t.undo();
        due("as kept last", t.count(3), 23);
        // What is kept stays so, whatever becomes of what is now: stars walk, clouds are drawn, ships go.
        t = new StarTales();
        t.star(0, 10, 5, 1);
        t.walk(0, 1, 1);
        t.ship(0, 12, 5);
        t.land(23, 11, true);
        t.land(0, 0, true);
        law(t, "q10(1=1)");
        t.keep();
        t.steered(0, 0, 48, true);
        t.land(23, 11, false);
        t.land(1, 0, true);
        t.land(2, 0, true);
        t.undo();
        due("the ship", t.count(20), place(12, 5));
        due("clouds", t.count(2), 0);
        due("X", t.count(8), 1);
        due("land", t.count(10), 2);
        due("the star", t.starIs(0, 0) * 100 + t.starIs(0, 1), 1005);
        due("the night", t.count(1), 0);
        due("land where it was", t.ship(1, 23, 11), false);
        due("sea where it was", t.ship(1, 1, 0), true);
    }

    private static int check(StarTales t, int n, int... places) {
        for (int from = 0; from < places.length; from += 5) {
            int[] v = new int[5];
            System.arraycopy(places, from, v, 0, Math.min(5, places.length - from));
            t.feed(v[0], v[1], v[2], v[3], v[4]);
        }
        int answer = t.check(n);
        due("the tape is empty behind check()", t.count(7), 0);
        return answer;
    }

    private static void checking() {
        StarTales t = new StarTales();
        due("nothing at all", t.check(0), NONE);
        due("an empty tape", t.check(1), -2);
        due("no ships: 0", check(t, 6, 0, 0, 0, 0, 0, 0), NONE);
        due("no ships: not 0", check(t, 6, 0, 0, 0, 0, 0, 1), 5);
        due("the sixth is not looked at", check(t, 5, 0, 0, 0, 0, 0, 1), NONE);
        due("none is looked at", check(t, 0, 9, 9, 9, 9, 9, 9), NONE);
        for (int s = 0; s < 6; s++) {
            t.ship(s, 23 - s, 11);
        }
        int[] places = {287, 286, 285, 284, 283, 282};
        due("all ships", check(t, 6, places), NONE);
        for (int s = 0; s < 6; s++) {
            int[] other = places.clone();
            other[s]++;
            due("the first that is not so", check(t, 6, other), s);
            due("those ahead of it", check(t, s, other), NONE);
            for (int bit : new int[] {8, 9, 15, 16, 17, 23, 24, 31}) {
                other[s] = places[s] ^ 1 << bit;
                due("another bit " + bit, check(t, 6, other), s);
            }
            other[s] = -1;
            due("-1", check(t, 6, other), s);
            other[5] = 0;
            due("the first of two", check(t, 6, other), s);
        }
        t.ship(0, 0, 0);
        due("a ship at 0", check(t, 1, 0), NONE);
        due("a ship at 0", check(t, 1, 1), 0);
        for (int n : new int[] {-1, 7, 6}) {
            StarTales u = new StarTales();
            u.feed(0, 0, 0, 0, 0);
            due("check " + n, u.check(n), -2);
            due("the tape stays", u.count(7), 20);
            due("just five", u.check(5), NONE);
        }
    }

    private static void tape() {
        StarTales t = new StarTales();
        due("an empty tape", t.count(7), 0);
        for (int round = 0; round < 3; round++) {
            for (int k = 1; k <= 11; k++) {
                due("feed", t.feed(-1, k, Integer.MIN_VALUE, Integer.MAX_VALUE, 0), 20 * k);
                due("bytes", t.count(7), 20 * k);
            }
            due("one feed more", t.feed(0, 0, 0, 0, 0), NONE);
            due("and more", t.feed(1, 1, 1, 1, 1), NONE);
            due("bytes", t.count(7), 220);
            due("the first number", t.check(1), 0);
            due("bytes", t.count(7), 0);
        }
        // The highest byte of each int is the first; the ints one behind the other, the feeds, too.
        t.feed(0x41423B43, 0x443B4546, 0x3B47483B, 0x41433B42, 0x443B4346);
        t.feed(0x3B000000, 0, 0, 0, 0);
        due("20 bytes and one", t.tale(21), -1021);
        t.feed(0x41423B43, 0x443B4546, 0x3B47483B, 0x41433B42, 0x443B4346);
        due("20 bytes", t.tale(20), 7);
        t.feed(0x20202020, 0, 0, 0, 0);
        due("bytes anew", t.tale(2), -1000);
    }

    private static void counts() {
        StarTales t = new StarTales();
        for (int what = -3; what < 40; what++) {
            int want = what == 8 ? 1 : what == 9 ? 403 : what >= 0 && what <= 10 ? 0 : NONE;
            due("count " + what, t.count(what), want);
        }
        for (int what : new int[] {-1000, 1000, Integer.MIN_VALUE, Integer.MAX_VALUE, Integer.MIN_VALUE + 20}) {
            due("count " + what, t.count(what), NONE);
        }
        due("sight", t.sight(11, 0), true);
        due("sight", t.count(9), 1100);
        due("sight", t.sight(0, 11), true);
        due("sight", t.count(9), 11);
        due("sight", t.sight(0, 0), true);
        due("sight", t.count(9), 0);
        due("clouds", t.clouds(0xFFFFFF), true);
        due("clouds", t.count(2), 0xFFFFFF);
        due("clouds", t.clouds(0), true);
        due("clouds", t.count(2), 0);
        for (int x : new int[] {0, 65535, 1}) {
            due("seed", t.seed(x), true);
            due("X", t.count(8), x);
        }
        for (int i = 0; i < 24; i++) {
            due("a star", t.star(i, 0, 0, 1), true);
            due("stars", t.count(3), i + 1);
            due("the same again", t.star(i, 23, 11, 9), true);
            due("stars", t.count(3), i + 1);
        }
        for (int i = 0; i < 24; i++) {
            due("a star goes", t.gone(i), true);
            due("stars", t.count(3), 23 - i);
        }
        due("all are gone", t.sold(999, 1), 0);
    }

    public static void main(String[] args) {
        places();
        fullSea();
        steps();
        steering();
        drawn();
        nights();
        finding();
        meetings();
        fastest();
        byTwo();
        byTwoAmidst();
        logs();
        logsOfTales();
        keeping();
        checking();
        tape();
        counts();
        tellAndEnd();
    }
}
