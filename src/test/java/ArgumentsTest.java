import java.util.function.IntPredicate;
import java.util.function.IntUnaryOperator;

/** Each argument of each call: the last value that is taken and the first that is refused, on each side. */
public final class ArgumentsTest extends Asking {
    private static final int NONE = StarTales.NONE;

    /** All stars and ships, a law, a tale, something kept and a full tape: only an argument can be refused. */
    private static StarTales full() {
        StarTales t = new StarTales();
        for (int i = 0; i < 24; i++) {
            t.star(i, i, i % 12, 1 + i % 9);
        }
        for (int s = 0; s < 6; s++) {
            t.ship(s, 4 * s + 1, 2 * s);
        }
        law(t, "j(d<9);w1(1=1);g1(1=1);q1(1=1)");
        tale(t, "AB");
        t.keep();
        for (int k = 0; k < 11; k++) {
            t.feed(0, 0, 0, 0, 0);
        }
        return t;
    }

    private static void bounds(int promise, String what, int least, int most, int refused, IntUnaryOperator call) {
        for (int v : new int[] {least, least + (most - least) / 2, most}) {
            due(promise, what + " " + v + " is taken", call.applyAsInt(v) == refused, false);
        }
        for (int v : new int[] {least - 1, most + 1, Integer.MIN_VALUE, Integer.MAX_VALUE}) {
            due(promise, what + " " + v + " is refused", call.applyAsInt(v), refused);
        }
    }

    private static void bounds(int promise, String what, int least, int most, IntUnaryOperator call) {
        bounds(promise, what, least, most, NONE, call);
    }

    private static void limits(int promise, String what, int least, int most, IntPredicate call) {
        bounds(promise, what, least, most, 0, v -> call.test(v) ? 1 : 0);
    }

    private static void tellings() {
        limits(2, "i", 0, 23, v -> full().star(v, 1, 1, 1));
        limits(2, "column", 0, 23, v -> full().star(1, v, 1, 1));
        limits(2, "row", 0, 11, v -> full().star(1, 1, v, 1));
        limits(2, "bright", 1, 9, v -> full().star(1, 1, 1, v));
        limits(3, "i", 0, 23, v -> full().walk(v, 1, 1));
        limits(3, "columns", -3, 3, v -> full().walk(1, v, 1));
        limits(3, "rows", -3, 3, v -> full().walk(1, 1, v));
        limits(4, "i", 0, 23, v -> full().gone(v));
        limits(5, "h", 0, 23, v -> full().hour(v));
        limits(6, "bits", 0, 0xFFFFFF, v -> full().clouds(v));
        limits(7, "columns", 0, 11, v -> full().sight(v, 1));
        limits(7, "rows", 0, 11, v -> full().sight(1, v));
        limits(8, "x", 0, 23, v -> full().land(v, 1, true));
        limits(8, "y", 0, 11, v -> full().land(0, v, true));
        limits(8, "x of sea", 0, 23, v -> full().land(v, 1, false));
        limits(8, "y of sea", 0, 11, v -> full().land(0, v, false));
        limits(9, "s", 0, 5, v -> full().ship(v, 1, 1));
        limits(9, "x", 0, 23, v -> full().ship(1, v, 1));
        limits(9, "y", 0, 11, v -> full().ship(1, 1, v));
        limits(36, "x", 0, 65535, v -> full().seed(v));
    }

    private static void tapes() {
        bounds(11, "n", 1, 200, v -> full().law(v));
        bounds(12, "n", 1, 60, v -> full().tale(v));
        bounds(22, "n", 1, 12, v -> full().known(v, 0));
        bounds(22, "what", 0, 3, v -> full().known(1, v));
        bounds(23, "n", 2, 8, v -> full().named(v, 0));
        bounds(23, "what", 0, 1, v -> full().named(2, v));
        bounds(33, "n", 1, 12, v -> full().log(v, 0));
        bounds(33, "what", 0, 1, v -> full().log(1, v));
        bounds(39, "n", 0, 6, -2, v -> full().check(v));
    }

    private static void looks() {
        bounds(13, "i", 0, 23, v -> full().starIs(v, 0));
        bounds(13, "what", 0, 5, v -> full().starIs(1, v));
        bounds(14, "x", 0, 23, v -> full().seen(v, 1));
        bounds(14, "y", 0, 11, v -> full().seen(1, v));
        bounds(15, "x", 0, 23, v -> full().line(v, 1, 3, 4));
        bounds(15, "y", 0, 11, v -> full().line(1, v, 3, 4));
        bounds(15, "a", 0, 23, v -> full().line(1, 1, v, 4));
        bounds(15, "b", 0, 23, v -> full().line(1, 1, 4, v));
        bounds(16, "x", 0, 23, v -> full().sky(v, 1, 0));
        bounds(16, "y", 0, 11, v -> full().sky(1, v, 0));
        bounds(16, "what", 0, 6, v -> full().sky(1, 1, v));
        bounds(17, "x", 0, 23, v -> full().figure(v, 1, 1));
        bounds(17, "y", 0, 11, v -> full().figure(1, v, 1));
        bounds(17, "i", 0, 23, v -> full().figure(1, 1, v));
        bounds(18, "x", 0, 23, -3, v -> full().matched(v, 1, 0));
        bounds(18, "y", 0, 11, -3, v -> full().matched(1, v, 0));
        bounds(18, "what", -1, 7, -3, v -> full().matched(1, 1, v));
        bounds(19, "what", 0, 1, v -> full().where(v));
        bounds(20, "x", 0, 23, v -> full().when(v, 1));
        bounds(20, "y", 0, 11, v -> full().when(1, v));
        bounds(21, "what", 0, 2, v -> full().alike(v));
        bounds(31, "p", 0, 287, v -> full().both(v, 1, 0));
        bounds(31, "q", 0, 287, v -> full().both(1, v, 0));
        bounds(31, "what", 0, 2, v -> full().both(1, 1, v));
        bounds(32, "x", 0, 23, v -> full().hidden(v, 1, 0));
        bounds(32, "y", 0, 11, v -> full().hidden(1, v, 0));
        bounds(32, "what", 0, 1, v -> full().hidden(1, 1, v));
        bounds(34, "x", 0, 23, v -> full().over(v, 1));
        bounds(34, "y", 0, 11, v -> full().over(1, v));
        bounds(35, "x", 0, 23, v -> full().home(v, 1));
        bounds(35, "y", 0, 11, v -> full().home(1, v));
        bounds(40, "what", 0, 10, v -> full().count(v));
        bounds(40, "what", 20, 25, v -> full().count(v));
    }

    private static void voyages() {
        bounds(24, "most", 0, 999, v -> full().sold(v, 0));
        bounds(24, "what", 0, 2, v -> full().sold(9, v));
        for (boolean drawn : new boolean[] {false, true}) {
            bounds(25, "s", 0, 5, v -> full().steered(v, 1, 1, drawn));
            bounds(25, "i", 0, 23, v -> full().steered(1, v, 1, drawn));
            bounds(25, "n", 1, 48, v -> full().steered(1, 1, v, drawn));
        }
        bounds(26, "n", 1, 240, v -> full().hours(v));
        bounds(28, "a", 0, 5, v -> full().meeting(v, 1, 0));
        bounds(28, "b", 0, 5, v -> full().meeting(1, v, 0));
        bounds(28, "what", 0, 1, v -> full().meeting(1, 2, v));
        bounds(29, "s", 0, 5, v -> full().fastest(v, 1, 1, 9, 0));
        bounds(29, "x", 0, 23, v -> full().fastest(1, v, 1, 9, 0));
        bounds(29, "y", 0, 11, v -> full().fastest(1, 1, v, 9, 0));
        bounds(29, "n", 1, 48, v -> full().fastest(1, 1, 1, v, 0));
        bounds(29, "what", 0, 1, v -> full().fastest(1, 1, 1, 9, v));
        bounds(30, "s", 0, 5, v -> full().byTwo(v, 1, 1, 9, 0));
        bounds(30, "x", 0, 23, v -> full().byTwo(1, v, 1, 9, 0));
        bounds(30, "y", 0, 11, v -> full().byTwo(1, 1, v, 9, 0));
        bounds(30, "n", 2, 12, v -> full().byTwo(1, 1, 1, v, 0));
        bounds(30, "what", 0, 3, v -> full().byTwo(1, 1, 1, 9, v));
    }

    /** What is not told is refused as what can't be. */
    private static void notTold() {
        for (int i : new int[] {0, 12, 23}) {
            StarTales t = full();
            due(4, "the star " + i + " goes", t.gone(i), true);
            due(4, "it is gone", t.gone(i), false);
            due(3, "it is gone", t.walk(i, 0, 0), false);
            due(13, "it is gone", t.starIs(i, 0), NONE);
            due(15, "it is gone", t.line(i, i % 12, i, 5), NONE);
            due(15, "it is gone", t.line(i, i % 12, 5, i), NONE);
            due(17, "it is gone", t.figure(i, i % 12, i), NONE);
            due(25, "it is gone", t.steered(0, i, 1, false), NONE);
            due(14, "it is gone", t.seen(i, i % 12) >> i & 1, 0);
            due(2, "it is told anew", t.star(i, 0, 0, 9), true);
            due(13, "it is told anew", t.starIs(i, 2), 9);
        }
        for (int s : new int[] {0, 5}) {
            StarTales t = new StarTales();
            t.star(0, 0, 0, 1);
            t.ship(5 - s, 0, 0);
            due(25, "no such ship", t.steered(s, 0, 1, false), NONE);
            due(28, "no such ship", t.meeting(s, 5 - s, 0), NONE);
            due(28, "no such ship", t.meeting(5 - s, s, 0), NONE);
            due(28, "with itself", t.meeting(s, s, 0), NONE);
            due(29, "no such ship", t.fastest(s, 0, 0, 1, 0), NONE);
            due(30, "no such ship", t.byTwo(s, 0, 0, 2, 0), NONE);
            due(40, "no such ship", t.count(20 + s), NONE);
            due(40, "the other one", t.count(25 - s), 0);
        }
    }

    private static void onceTwice() {
        for (int i = 0; i < 24; i++) {
            due(15, "one twice", full().line(i, i % 12, i, i), NONE);
        }
        for (int s = 0; s < 6; s++) {
            StarTales t = full();
            due(28, "of one with itself", t.meeting(s, s, 0), 0);
            due(28, "where it is", t.meeting(s, s, 1), t.count(20 + s));
        }
    }

    public static void main(String[] args) {
        tellings();
        tapes();
        looks();
        voyages();
        notTold();
        onceTwice();
        tellAndEnd();
    }
}
