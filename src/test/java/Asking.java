/** What the tests by hand have in common: to count answers, and to put texts and bytes on the tape. */
class Asking {
    private static int wrong = 0;
    private static int asked = 0;

    static void due(String what, int got, int want) {
        asked++;
        if (got != want) {
            wrong++;
            System.out.println(what + " answered " + got + ", due is " + want);
        }
    }

    static void due(String what, boolean got, boolean want) {
        due(what, got ? 1 : 0, want ? 1 : 0);
    }

    static void due(int promise, String what, int got, int want) {
        due("promise " + promise + ": " + what, got, want);
    }

    static void due(int promise, String what, boolean got, boolean want) {
        due("promise " + promise + ": " + what, got ? 1 : 0, want ? 1 : 0);
    }

    /** To be called at the end of a test: tells what was wrong, and ends with exit code 1 if there was something. */
    static void tellAndEnd() {
        System.out.println(wrong == 0 ? "all " + asked + " answers are as due" : wrong + " answers are not as due");
        if (wrong != 0) {
            System.exit(1);
        }
    }

    static void put(StarTales t, int... bytes) {
        for (int from = 0; from < bytes.length; from += 20) {
            int[] v = new int[5];
            for (int k = 0; k < 20; k++) {
                v[k / 4] = v[k / 4] << 8 | (from + k < bytes.length ? bytes[from + k] : 0);
            }
            t.feed(v[0], v[1], v[2], v[3], v[4]);
        }
    }

    static void put(StarTales t, String text) {
        int[] bytes = new int[text.length()];
        for (int k = 0; k < bytes.length; k++) {
            bytes[k] = text.charAt(k);
        }
        put(t, bytes);
    }

    static int law(StarTales t, String text) {
        put(t, text);
        return t.law(text.length());
    }

    static int tale(StarTales t, String text) {
        put(t, text);
        return t.tale(text.length());
    }

    static String many(String part, String between, int times) {
        StringBuilder s = new StringBuilder(part);
        for (int k = 1; k < times; k++) {
            s.append(between).append(part);
        }
        return s.toString();
    }

    /** Stars 0, 1, 2 make a triangle round (11, 5), 3 hangs on 2, 4 stands alone; lines are up to 3 long. */
    static StarTales fiveStars() {
        StarTales t = new StarTales();
        t.star(0, 10, 5, 1);
        t.star(1, 12, 5, 2);
        t.star(2, 11, 7, 3);
        t.star(3, 13, 8, 4);
        t.star(4, 15, 4, 5);
        law(t, "j(d<4)");
        return t;
    }
}
