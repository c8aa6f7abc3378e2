import java.util.ArrayList;
import java.util.List;
import java.util.function.Predicate;
import java.util.function.Supplier;
import java.util.function.ToIntFunction;

/**
 * A call that is refused changes nothing but the tape, where it is told; nor does a call that only asks. Each is
 * made on one of two objects that are alike; then both are asked for all that they can tell, in the same way.
 */
public final class RefusedTest extends Asking {
    private static final int NONE = StarTales.NONE;
    private static final String ON_TAPE = "v(1=1);j(d<3);w9(1=1)";

    /** Six stars, two ships, land, a law, a tale, something kept, a tape with a law on it. */
    private static StarTales rich() {
        StarTales t = untold();
        tale(t, "AB;BC");
        put(t, ON_TAPE);
        return t;
    }

    private static StarTales untold() {
        StarTales t = new StarTales();
        int[] columns = {10, 12, 11, 13, 10, 15};
        int[] rows = {5, 5, 7, 8, 5, 4};
        for (int i = 0; i < 6; i++) {
            t.star(4 * i, columns[i], rows[i], 1 + i);
            t.walk(4 * i, i % 3 - 1, i % 5 - 2);
        }
        t.ship(0, 8, 5);
        t.ship(5, 20, 5);
        t.land(3, 3, true);
        t.land(9, 4, true);
        t.seed(77);
        law(t, "v(m<6);j(d<4);wm*7(1=1);gr(1=1);qc/4(h>2)");
        t.keep();
        t.hour(1);
        t.clouds(1 << 20);
        t.sight(5, 4);
        t.ship(5, 21, 5);
        t.land(23, 11, true);
        t.star(1, 9, 6, 9);
        t.walk(1, 3, 3);
        t.gone(20);
        return t;
    }

    private static StarTales without(String tape) {
        StarTales t = rich();
        t.check(0);
        put(t, tape);
        return t;
    }

    private static StarTales withoutStars() {
        StarTales t = rich();
        for (int i = 0; i < 24; i++) {
            t.gone(i);
        }
        return t;
    }

    private static StarTales fullTape() {
        return without(ON_TAPE + many(" ", "", 220 - ON_TAPE.length()));
    }

    private static StarTales neverKept() {
        StarTales t = new StarTales();
        t.star(0, 9, 5, 3);
        t.ship(0, 8, 5);
        t.hours(30);
        law(t, "v(1=1)");
        tale(t, "AB");
        put(t, ON_TAPE);
        return t;
    }

    /** All that can be told of an object: what is now, what is on the tape, what comes, what was kept. */
    private static List<Integer> told(StarTales t) {
        List<Integer> told = new ArrayList<>();
        tellState(t, told);
        tellViews(t, told);
        told.add(t.ship(3, 3, 3) ? 1 : 0);
        told.add(t.ship(3, 23, 11) ? 1 : 0);
        told.add(t.ship(3, 9, 4) ? 1 : 0);
        told.add(t.steered(0, 8, 3, true));
        told.add(t.steered(5, 1, 25, false));
        tellState(t, told);
        told.add(t.law(ON_TAPE.length()));
        tellViews(t, told);
        told.add(t.undo() ? 1 : 0);
        tellState(t, told);
        return told;
    }

    private static void tellState(StarTales t, List<Integer> told) {
        for (int what = 0; what <= 25; what++) {
            told.add(t.count(what));
        }
        for (int i = 0; i < 24; i++) {
            int column = t.starIs(i, 0);
            told.add(column);
            for (int what = 1; what < 6 && column != NONE; what++) {
                told.add(t.starIs(i, what));
            }
        }
    }

    private static void tellViews(StarTales t, List<Integer> told) {
        for (int x = 8; x < 17; x += 4) {
            told.add(t.seen(x, 5));
            told.add(t.sky(x, 6, 0));
            told.add(t.sky(x, 6, 4));
            told.add(t.matched(x, 5, -1));
            told.add(t.matched(x, 5, 1));
            told.add(t.hidden(x, 5, 1));
            told.add(t.home(x, 5));
            told.add(t.over(x, 5));
        }
        told.add(t.when(12, 5));
        told.add(t.where(0));
        told.add(t.alike(1));
        told.add(t.sold(12, 1));
        told.add(t.meeting(0, 5, 1));
        told.add(t.fastest(0, 9, 5, 48, 0));
        told.add(t.byTwo(0, 10, 5, 12, 0));
        told.add(t.both(131, 133, 0));
    }

    /** A call that leaves the tape, or (if told so) one that empties it. */
    private static void leaves(Supplier<StarTales> made, String call, ToIntFunction<StarTales> asked, int want, boolean isEmptied) {
        StarTales one = made.get();
        StarTales other = made.get();
        int answer = asked.applyAsInt(one);
        if (want != Integer.MIN_VALUE) {
            due(call, answer, want);
        } else {
            due(call + " is answered", answer == NONE, false);
        }
        if (isEmptied) {
            other.check(0);
        }
        List<Integer> got = told(one);
        List<Integer> due = told(other);
        for (int k = 0; k < due.size(); k++) {
            due("behind " + call + ", answer " + k, got.get(k), due.get(k));
        }
    }

    private static void none(String call, ToIntFunction<StarTales> asked) {
        leaves(RefusedTest::rich, call, asked, NONE, false);
    }

    private static void no(String call, Predicate<StarTales> asked) {
        leaves(RefusedTest::rich, call, t -> asked.test(t) ? 1 : 0, 0, false);
    }

    /** A call that asks, and is answered. */
    private static void asks(String call, ToIntFunction<StarTales> asked) {
        leaves(RefusedTest::rich, call, asked, Integer.MIN_VALUE, false);
    }

    private static void tellings() {
        no("star(-1, 0, 0, 1)", t -> t.star(-1, 0, 0, 1));
        no("star(24, 0, 0, 1)", t -> t.star(24, 0, 0, 1));
        no("star(0, -1, 0, 1)", t -> t.star(0, -1, 0, 1));
        no("star(0, 24, 0, 1)", t -> t.star(0, 24, 0, 1));
        no("star(0, 0, -1, 1)", t -> t.star(0, 0, -1, 1));
        no("star(0, 0, 12, 1)", t -> t.star(0, 0, 12, 1));
        no("star(0, 0, 0, 0)", t -> t.star(0, 0, 0, 0));
        no("star(0, 0, 0, 10)", t -> t.star(0, 0, 0, 10));
        no("star(2, 0, 0, 10)", t -> t.star(2, 0, 0, 10));
        no("walk(1, 4, 0)", t -> t.walk(1, 4, 0));
        no("walk(1, -4, 0)", t -> t.walk(1, -4, 0));
        no("walk(1, 0, 4)", t -> t.walk(1, 0, 4));
        no("walk(1, 0, -4)", t -> t.walk(1, 0, -4));
        no("walk(2, 1, 1)", t -> t.walk(2, 1, 1));
        no("walk(20, 1, 1)", t -> t.walk(20, 1, 1));
        no("walk(24, 1, 1)", t -> t.walk(24, 1, 1));
        no("walk(-1, 1, 1)", t -> t.walk(-1, 1, 1));
        no("gone(2)", t -> t.gone(2));
        no("gone(20)", t -> t.gone(20));
        no("gone(24)", t -> t.gone(24));
        no("gone(-1)", t -> t.gone(-1));
        no("gone(32)", t -> t.gone(32));
        no("hour(24)", t -> t.hour(24));
        no("hour(-1)", t -> t.hour(-1));
        no("clouds(-1)", t -> t.clouds(-1));
        no("clouds(1 << 24)", t -> t.clouds(1 << 24));
        no("sight(12, 2)", t -> t.sight(12, 2));
        no("sight(2, 12)", t -> t.sight(2, 12));
        no("sight(-1, 2)", t -> t.sight(-1, 2));
        no("sight(2, -1)", t -> t.sight(2, -1));
        no("land(24, 0, true)", t -> t.land(24, 0, true));
        no("land(-1, 1, true)", t -> t.land(-1, 1, true));
        no("land(0, 12, true)", t -> t.land(0, 12, true));
        no("land(3, -1, true)", t -> t.land(3, -1, true));
        no("land(27, 2, false)", t -> t.land(27, 2, false));
        no("land where a ship is", t -> t.land(8, 5, true));
        no("land where a ship is", t -> t.land(21, 5, true));
        no("sea where a ship is", t -> t.land(21, 5, false));
        no("ship(6, 0, 0)", t -> t.ship(6, 0, 0));
        no("ship(-1, 0, 0)", t -> t.ship(-1, 0, 0));
        no("ship(0, 24, 0)", t -> t.ship(0, 24, 0));
        no("ship(0, -1, 0)", t -> t.ship(0, -1, 0));
        no("ship(0, 0, 12)", t -> t.ship(0, 0, 12));
        no("ship(0, 0, -1)", t -> t.ship(0, 0, -1));
        no("ship(1, 24, 0)", t -> t.ship(1, 24, 0));
        no("a told ship to land", t -> t.ship(0, 3, 3));
        no("another ship to land", t -> t.ship(1, 23, 11));
        no("seed(-1)", t -> t.seed(-1));
        no("seed(65536)", t -> t.seed(65536));
        leaves(RefusedTest::neverKept, "undo()", t -> t.undo() ? 1 : 0, 0, false);
        leaves(RefusedTest::fullTape, "feed on a full tape", t -> t.feed(1, 2, 3, 4, 5), NONE, false);
    }

    private static void tapes() {
        none("law(0)", t -> t.law(0));
        none("law(-1)", t -> t.law(-1));
        none("law(41)", t -> t.law(41));
        none("law(201)", t -> t.law(201));
        none("tale(0)", t -> t.tale(0));
        none("tale(-1)", t -> t.tale(-1));
        none("tale(41)", t -> t.tale(41));
        none("tale(61)", t -> t.tale(61));
        none("known(0, 0)", t -> t.known(0, 0));
        none("known(13, 0)", t -> t.known(13, 0));
        none("known(1, 4)", t -> t.known(1, 4));
        none("known(1, -1)", t -> t.known(1, -1));
        none("named(1, 0)", t -> t.named(1, 0));
        none("named(9, 0)", t -> t.named(9, 0));
        none("named(2, 2)", t -> t.named(2, 2));
        none("named(2, -1)", t -> t.named(2, -1));
        none("log(0, 0)", t -> t.log(0, 0));
        none("log(13, 0)", t -> t.log(13, 0));
        none("log(1, 2)", t -> t.log(1, 2));
        none("log(1, -1)", t -> t.log(1, -1));
        leaves(RefusedTest::rich, "check(7)", t -> t.check(7), -2, false);
        leaves(RefusedTest::rich, "check(-1)", t -> t.check(-1), -2, false);
        leaves(RefusedTest::fullTape, "law(201) on a full tape", t -> t.law(201), NONE, false);
        leaves(RefusedTest::fullTape, "tale(61) on a full tape", t -> t.tale(61), NONE, false);
        leaves(RefusedTest::withoutStars, "found() without stars", t -> t.found(), NONE, false);
        Supplier<StarTales> empty = () -> without("");
        leaves(empty, "law(1) on an empty tape", t -> t.law(1), NONE, false);
        leaves(empty, "tale(1) on an empty tape", t -> t.tale(1), NONE, false);
        leaves(empty, "known(1, 0) on an empty tape", t -> t.known(1, 0), NONE, false);
        leaves(empty, "named(2, 0) on an empty tape", t -> t.named(2, 0), NONE, false);
        leaves(empty, "log(1, 0) on an empty tape", t -> t.log(1, 0), NONE, false);
        leaves(empty, "found() on an empty tape", t -> t.found(), NONE, false);
        leaves(empty, "check(1) on an empty tape", t -> t.check(1), -2, false);
        Supplier<StarTales> twenty = () -> without("v(1=1);j(d<9)       ");
        leaves(twenty, "law(21) of 20 bytes", t -> t.law(21), NONE, false);
        leaves(twenty, "law(200) of 20 bytes", t -> t.law(200), NONE, false);
        leaves(twenty, "tale(21) of 20 bytes", t -> t.tale(21), NONE, false);
        leaves(twenty, "tale(60) of 20 bytes", t -> t.tale(60), NONE, false);
        leaves(twenty, "known(7, 0) of 20 bytes", t -> t.known(7, 0), NONE, false);
        leaves(twenty, "known(12, 3) of 20 bytes", t -> t.known(12, 3), NONE, false);
        leaves(twenty, "log(11, 0) of 20 bytes", t -> t.log(11, 0), NONE, false);
        leaves(twenty, "log(12, 1) of 20 bytes", t -> t.log(12, 1), NONE, false);
        leaves(twenty, "check(6) of 20 bytes", t -> t.check(6), -2, false);
        Supplier<StarTales> elevenStars = () -> {
            StarTales t = without("v(1=1);j(d<9)       ");
            for (int i : new int[] {12, 16}) {
                t.gone(i);
            }
            for (int i = 0; i < 11; i++) {
                t.star(i, i, i / 3, 5);
            }
            return t;
        };
        leaves(elevenStars, "found() of 11 stars and 20 bytes", t -> t.found(), NONE, false);
        Supplier<StarTales> untold = () -> {
            StarTales t = untold();
            put(t, ON_TAPE);
            return t;
        };
        leaves(untold, "log(1, 0) without a tale", t -> t.log(1, 0), NONE, false);
    }

    /** What is answered, or told as a FAULT or -2, empties the tape, and changes nothing else. */
    private static void emptied() {
        Supplier<StarTales> rich = RefusedTest::rich;
        leaves(rich, "a FAULT of law()", t -> t.law(3), -1003, true);
        leaves(rich, "a FAULT at the end", t -> t.law(40), -1021, true);
        leaves(rich, "a FAULT of tale()", t -> t.tale(1), -1000, true);
        leaves(() -> without("AB;BA"), "a FAULT of tale()", t -> t.tale(5), -6003, true);
        leaves(() -> without("v(123456=1)"), "a FAULT of law()", t -> t.law(11), -2007, true);
        leaves(rich, "known()", t -> t.known(1, 0), 0, true);
        leaves(rich, "known(), none", t -> t.known(12, 1), -2, true);
        leaves(rich, "named(), no such places", t -> t.named(2, 0), -2, true);
        leaves(() -> without("\1\1\1\1"), "named(), one twice", t -> t.named(2, 0), -2, true);
        leaves(() -> without("\14\5\1\1"), "named()", t -> t.named(2, 0), 1, true);
        leaves(rich, "log(), no such bytes", t -> t.log(1, 0), -2, true);
        leaves(() -> without("\0\1\0\2\1\1"), "log()", t -> t.log(3, 0), Integer.MIN_VALUE, true);
        leaves(() -> without("\0\5\0\2\1\1"), "log(), no such way", t -> t.log(3, 1), -2, true);
        leaves(rich, "found()", t -> t.found(), 1 | 1 << 1 | 1 << 4 | 1 << 8 | 1 << 12 | 1 << 16, true);
        leaves(rich, "check(0)", t -> t.check(0), NONE, true);
        leaves(rich, "check(6)", t -> t.check(6), 0, true);
    }

    private static void looks() {
        none("starIs(2, 0)", t -> t.starIs(2, 0));
        none("starIs(0, 6)", t -> t.starIs(0, 6));
        none("seen(24, 0)", t -> t.seen(24, 0));
        none("seen(0, 12)", t -> t.seen(0, 12));
        none("line(24, 0, 0, 4)", t -> t.line(24, 0, 0, 4));
        none("line(0, 0, 0, 0)", t -> t.line(0, 0, 0, 0));
        none("line(0, 0, 0, 2)", t -> t.line(0, 0, 0, 2));
        none("sky(0, 0, 7)", t -> t.sky(0, 0, 7));
        none("sky(0, 12, 0)", t -> t.sky(0, 12, 0));
        none("figure(0, 0, 2)", t -> t.figure(0, 0, 2));
        none("figure(24, 0, 0)", t -> t.figure(24, 0, 0));
        leaves(RefusedTest::rich, "figure(0, 0, 0)", t -> t.figure(0, 0, 0), -2, false);
        leaves(RefusedTest::rich, "matched(24, 0, 0)", t -> t.matched(24, 0, 0), -3, false);
        leaves(RefusedTest::rich, "matched(0, 0, 8)", t -> t.matched(0, 0, 8), -3, false);
        leaves(RefusedTest::rich, "matched(0, 0, 0)", t -> t.matched(0, 0, 0), -2, false);
        leaves(RefusedTest::untold, "matched(0, 0, -1)", t -> t.matched(0, 0, -1), -2, false);
        none("where(2)", t -> t.where(2));
        none("when(24, 0)", t -> t.when(24, 0));
        none("alike(3)", t -> t.alike(3));
        none("sold(1000, 0)", t -> t.sold(1000, 0));
        none("sold(-1, 0)", t -> t.sold(-1, 0));
        none("sold(0, 3)", t -> t.sold(0, 3));
        none("both(-1, 0, 0)", t -> t.both(-1, 0, 0));
        none("both(0, 288, 0)", t -> t.both(0, 288, 0));
        none("both(0, 0, 3)", t -> t.both(0, 0, 3));
        none("hidden(24, 0, 0)", t -> t.hidden(24, 0, 0));
        none("hidden(0, 0, 2)", t -> t.hidden(0, 0, 2));
        leaves(RefusedTest::rich, "hidden(0, 0, 0)", t -> t.hidden(0, 0, 0), -3, false);
        none("over(24, 0)", t -> t.over(24, 0));
        none("home(0, -1)", t -> t.home(0, -1));
        none("count(11)", t -> t.count(11));
        none("count(26)", t -> t.count(26));
        leaves(RefusedTest::untold, "where(0)", t -> t.where(0), NONE, false);
        leaves(RefusedTest::untold, "when(0, 0)", t -> t.when(0, 0), NONE, false);
        leaves(RefusedTest::untold, "both(0, 0, 0)", t -> t.both(0, 0, 0), NONE, false);
        leaves(RefusedTest::untold, "hidden(0, 0, 0)", t -> t.hidden(0, 0, 0), NONE, false);
    }

    private static void sailing() {
        for (boolean drawn : new boolean[] {false, true}) {
            none("steered(1, 0, 1, .)", t -> t.steered(1, 0, 1, drawn));
            none("steered(6, 0, 1, .)", t -> t.steered(6, 0, 1, drawn));
            none("steered(0, 2, 1, .)", t -> t.steered(0, 2, 1, drawn));
            none("steered(0, 24, 1, .)", t -> t.steered(0, 24, 1, drawn));
            none("steered(0, 0, 0, .)", t -> t.steered(0, 0, 0, drawn));
            none("steered(0, 0, 49, .)", t -> t.steered(0, 0, 49, drawn));
        }
        none("hours(0)", t -> t.hours(0));
        none("hours(-1)", t -> t.hours(-1));
        none("hours(241)", t -> t.hours(241));
        none("meeting(0, 1, 0)", t -> t.meeting(0, 1, 0));
        none("meeting(6, 0, 0)", t -> t.meeting(6, 0, 0));
        none("meeting(0, 5, 2)", t -> t.meeting(0, 5, 2));
        none("fastest(1, 0, 0, 9, 0)", t -> t.fastest(1, 0, 0, 9, 0));
        none("fastest(0, 24, 0, 9, 0)", t -> t.fastest(0, 24, 0, 9, 0));
        none("fastest(0, 0, 0, 49, 0)", t -> t.fastest(0, 0, 0, 49, 0));
        none("fastest(0, 0, 0, 0, 0)", t -> t.fastest(0, 0, 0, 0, 0));
        none("fastest(0, 0, 0, 9, 2)", t -> t.fastest(0, 0, 0, 9, 2));
        none("byTwo(1, 0, 0, 9, 0)", t -> t.byTwo(1, 0, 0, 9, 0));
        none("byTwo(0, 0, 12, 9, 0)", t -> t.byTwo(0, 0, 12, 9, 0));
        none("byTwo(0, 0, 0, 13, 0)", t -> t.byTwo(0, 0, 0, 13, 0));
        none("byTwo(0, 0, 0, 1, 0)", t -> t.byTwo(0, 0, 0, 1, 0));
        none("byTwo(0, 0, 0, 9, 4)", t -> t.byTwo(0, 0, 0, 9, 4));
        leaves(RefusedTest::withoutStars, "fastest() without stars", t -> t.fastest(0, 8, 5, 9, 0), NONE, false);
        leaves(RefusedTest::withoutStars, "byTwo() without stars", t -> t.byTwo(0, 8, 5, 9, 0), NONE, false);
    }

    private static void asking() {
        asks("starIs(0, 3)", t -> t.starIs(0, 3));
        asks("seen(12, 5)", t -> t.seen(12, 5));
        asks("line(12, 5, 0, 4)", t -> t.line(12, 5, 0, 4));
        for (int what = 0; what < 7; what++) {
            int asked = what;
            asks("sky(12, 5, " + what + ")", t -> t.sky(12, 5, asked));
        }
        asks("figure(12, 5, 0)", t -> t.figure(12, 5, 0));
        asks("matched(12, 5, -1)", t -> t.matched(12, 5, -1));
        asks("matched(12, 5, 0)", t -> t.matched(12, 5, 0));
        asks("where(1)", t -> t.where(1));
        asks("when(12, 5)", t -> t.when(12, 5));
        asks("alike(2)", t -> t.alike(2));
        asks("sold(30, 1)", t -> t.sold(30, 1));
        asks("meeting(0, 5, 1)", t -> t.meeting(0, 5, 1));
        asks("fastest(0, 12, 5, 48, 1)", t -> t.fastest(0, 12, 5, 48, 1));
        asks("byTwo(0, 11, 6, 12, 3)", t -> t.byTwo(0, 11, 6, 12, 3));
        asks("both(131, 132, 0)", t -> t.both(131, 132, 0));
        asks("hidden(12, 5, 1)", t -> t.hidden(12, 5, 1));
        asks("over(12, 5)", t -> t.over(12, 5));
        asks("home(12, 5)", t -> t.home(12, 5));
        asks("count(8)", t -> t.count(8));
        asks("keep() again behind undo()", t -> {
            t.undo();
            t.keep();
            t.hour(1);
            t.clouds(1 << 20);
            t.sight(5, 4);
            t.ship(5, 21, 5);
            t.land(23, 11, true);
            t.star(1, 9, 6, 9);
            t.walk(1, 3, 3);
            t.gone(20);
            return 0;
        });
    }

    /** Where several fit one call: NONE, then a FAULT, then -2, then -3; in matched() and hidden() -3 ahead of -2. */
    private static void order() {
        StarTales t = untold();
        put(t, "VVVVV");
        due("NONE ahead of a FAULT", t.law(21), NONE);
        due("NONE ahead of a FAULT", t.tale(21), NONE);
        due("no tale: NONE ahead of no such bytes", t.log(1, 1), NONE);
        due("NONE ahead of no such places", t.named(2, 2), NONE);
        due("NONE ahead of no such places", t.named(9, 0), NONE);
        due("the tape stays", t.count(7), 20);
        due("no tale: NONE, no such what", t.where(2), NONE);
        due("no tale: NONE ahead of -2", t.where(1), NONE);
        due("no tale: NONE ahead of -3", t.hidden(0, 0, 0), NONE);
        due("no tale, no such place: -3", t.matched(24, 0, 0), -3);
        due("no tale, no such what: -3", t.matched(0, 0, 8), -3);
        due("no tale: -2", t.matched(0, 0, -1), -2);
        due("no tale: but only of what 0", t.both(0, 0, 1), 0);
        due("no tale: but only of what 0", t.both(0, 0, 2), 0);
        due("no such place, not seen", t.figure(0, 12, 0), NONE);
        due("not told, not seen", t.figure(0, 0, 2), NONE);
        due("not seen", t.figure(0, 0, 0), -2);
        t.check(0);
        tale(t, "AB");
        due("no such what, it can't be told", t.hidden(0, 0, 2), NONE);
        due("no such place, it can't be told", t.hidden(0, 12, 0), NONE);
        due("it can't be told", t.hidden(0, 0, 0), -3);
        due("no such place, no such name", t.matched(24, 0, 7), -3);
        due("no such name", t.matched(0, 0, 7), -2);
        put(t, 2, 9);
        due("no such what, no such bytes", t.log(1, 2), NONE);
        due("too few, no such bytes", t.log(11, 0), NONE);
        due("no such bytes, of how many", t.log(1, 0), -2);
        for (int x = 0; x < 24; x++) {
            t.land(x, 0, true);
            t.land(x, 11, true);
        }
        due("no such what, never", t.meeting(0, 5, 2), NONE);
        due("no such what, by none", t.fastest(0, 0, 0, 48, 2), NONE);
        due("by none", t.fastest(0, 0, 0, 48, 1), -2);
        due("no such what, by none", t.byTwo(0, 0, 0, 12, 4), NONE);
        due("by none", t.byTwo(0, 0, 0, 12, 3), -2);
        due("no such what, none alike", new StarTales().alike(3), NONE);
        due("none alike", new StarTales().alike(2), -2);
        due("no such n and not so many", new StarTales().check(7), -2);
    }

    public static void main(String[] args) {
        tellings();
        tapes();
        emptied();
        looks();
        sailing();
        asking();
        order();
        tellAndEnd();
    }
}
