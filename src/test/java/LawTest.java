/** THE LAW and THE TALE as texts: each FAULT at its place, each bound, and what a LAW comes to at its edges. */
public final class LawTest extends Asking {
    private static final int NONE = StarTales.NONE;
    private static final String TWELVE = "AB;AC;AD;AE;AF;AG;AH;BC;BD;BE;BF;BG";

    /** The answer of law() to a text, on an object that has a LAW of one CLAUSE; a FAULT must leave that one. */
    private static int read(String text) {
        StarTales t = new StarTales();
        law(t, "w7(1=1)");
        t.star(0, 0, 0, 1);
        int answer = law(t, text);
        due("count of clauses after " + text, t.count(5), answer > 0 ? answer : 1);
        due("the tape after " + text, t.count(7), text.isEmpty() ? 0 : answer == NONE ? t.count(7) : 0);
        if (answer < 0) {
            due("the law before " + text, t.sold(999, 0), 7);
        }
        return answer;
    }

    private static void reads(String text, int want) {
        due("law " + text, read(text), want);
    }

    private static int fault(int number, int place) {
        return -1000 * number - place;
    }

    private static int clausesOf(String text) {
        return text.split(";").length;
    }

    /** Each text, cut off anywhere and spoilt anywhere: 1, the end, too. */
    private static void whatCantStand() {
        String[] texts = {"v(1=1)", "j(d<4)", "w5(h=0)", "v(!(h+12*[c-1]%3<d)&x=0|y>2);w[m+1]*9/2(r=2)",
            "g[[1]](!!h>[u]);q12345-0(((1=2)|!3<4)&5>6)"};
        for (String text : texts) {
            due("law " + text, read(text), clausesOf(text));
            for (int n = 1; n < text.length(); n++) {
                String start = text.substring(0, n);
                boolean isWhole = text.charAt(n) == ';';
                reads(start, isWhole ? clausesOf(start) : fault(1, n));
            }
            // What is behind the first n bytes is not looked at, though it is on the tape.
            for (int n = 1; n < text.length(); n++) {
                StarTales t = new StarTales();
                put(t, text);
                boolean isWhole = text.charAt(n) == ';';
                due("the first " + n + " of " + text, t.law(n), isWhole ? clausesOf(text.substring(0, n)) : fault(1, n));
            }
            for (int at = 0; at < text.length(); at++) {
                for (char sign : new char[] {' ', 0, 'A', 'z', 'a', 128, 200, 255, '.', '{'}) {
                    reads(text.substring(0, at) + sign + text.substring(at + 1), fault(1, at));
                }
            }
        }
        String[] faulty = {";v(1=1)", "v(1=1);;v(1=1)", "v(1=1);", "vv(1=1)", "v1(1=1)", "j=(1=1)", "w(1=1)", "w()",
            "w1+(1=1)", "w1", "w1)", "w1;", "w1=1(1=1)", "w(1)(1=1)", "w[1(1=1)]", "w[](1=1)", "w!1(1=1)", "w-1(1=1)",
            "v()", "v(1)", "v(h)", "v((1)=1)", "v(!)", "v(!&1=1)", "v(&1=1)", "v(|1=1)", "v(1=1&)", "v(1=1|)", "v(1=1&&1=1)",
            "v(1=1||1=1)", "v(1=1&|1=1)", "v(1=1!)", "v(1=1(1=1))", "v((1=1)(1=1))", "v((1=1)=1)", "v((1=1)+1=1)",
            "v(1=1=1)", "v(1<1>1)", "v(1<=1)", "v(1!=1)", "v(=1)", "v(1=)", "v(-1=1)", "v(1=-1)", "v(+1=1)", "v(1+-1=1)",
            "v(1*/1=1)", "v(1%%1=1)", "v(hu=1)", "v(h1=1)", "v(1h=1)", "v(h[1]=1)", "v([1]2=1)", "v([1]]=1)", "v([1)=1)",
            "v([1=1])", "v(1=[1)", "v(1=1])", "v(1=1", "v(1=1))", "v(1=1)1", "v(1=1)v(1=1)", "v(1=1)&1=1", "v[1=1]",
            "v(1=1);w", "v(1=1);w1", "v(1=(1))", "v(1=!1)", "v(v=1)", "v(j=1)", "v(w=1)", "v(g=1)", "v(q=1)", "x(1=1)",
            "V(1=1)", "v(H=1)"};
        int[] at = {0, 7, 7, 1, 1, 1, 1, 1,
            3, 2, 2, 2, 2, 1, 3, 2, 1, 1,
            2, 3, 3, 4, 3, 3, 2, 2, 6, 6, 6,
            6, 6, 5, 5, 7, 7, 7,
            5, 5, 4, 3, 2, 4, 2, 4, 2, 4,
            4, 4, 3, 3, 3, 3, 5, 5, 4,
            4, 6, 5, 5, 6, 6, 6, 6, 1,
            8, 9, 4, 4, 2, 2, 2, 2, 2, 0,
            0, 2};
        due("as many places as texts", at.length, faulty.length);
        for (int k = 0; k < faulty.length && k < at.length; k++) {
            reads(faulty[k], fault(1, at[k]));
        }
        for (int sign = 0; sign < 256; sign++) {
            boolean isLetter = "huimrcknsexyd".indexOf(sign) >= 0;
            reads("v(" + (char) sign + "=1)", isLetter || sign >= '0' && sign <= '9' ? 1
                    : sign == '!' || sign == '(' || sign == '[' ? fault(1, 3) : fault(1, 2));
            reads((char) sign + "(1=1)", sign == 'v' || sign == 'j' ? 1 : "wgq".indexOf(sign) >= 0 ? fault(1, 1) : fault(1, 0));
        }
    }

    private static void digits() {
        reads("v(1=1)", 1);
        reads("v(12345=0)", 1);
        reads("v(99999=99999)", 1);
        reads("v(00000=0)", 1);
        reads("v(123456=0)", fault(2, 7));
        reads("v(000000=0)", fault(2, 7));
        reads("v(123456789012=0)", fault(2, 7));
        reads("v(123456", fault(2, 7));
        reads("v(12345", fault(1, 7));
        reads("v(0=123456)", fault(2, 9));
        reads("w12345(1=1)", 1);
        reads("w123456(1=1)", fault(2, 6));
        reads("w12345 (1=1)", fault(1, 6));
        reads("w[123456](1=1)", fault(2, 7));
        reads("w1+123456(1=1)", fault(2, 8));
        reads("v(12345+12345=12345*12345)", 1);
        reads("v(12 345=0)", fault(1, 4));
    }

    private static void clauses() {
        for (String kind : new String[] {"v", "j", "w1", "g1", "q1"}) {
            String clause = kind + "(1=1)";
            int length = clause.length() + 1;
            for (int n = 1; n <= 14; n++) {
                reads(many(clause, ";", n), n);
            }
            String most = many(clause, ";", 14);
            reads(many(clause, ";", 15), fault(4, 14 * length));
            reads(many(clause, ";", 17), fault(4, 14 * length));
            for (String letter : new String[] {"v", "j", "w", "g", "q"}) {
                reads(most + ";" + letter, fault(4, 14 * length));
            }
            for (String sign : new String[] {";", "x", "(", "1", " ", "V"}) {
                reads(most + ";" + sign, fault(1, 14 * length));
            }
            reads(most + ";", fault(1, 14 * length));
            reads(most + "v", fault(1, 14 * length - 1));
            reads("v(1=1 );" + most, fault(1, 5));
        }
    }

    /** Of 14 CLAUSES the last one counts as the first; those of a LAW before do no more. */
    private static void lastClause() {
        StarTales t = new StarTales();
        for (int i = 0; i < 3; i++) {
            t.star(i, 0, 0, 1);
        }
        t.ship(0, 0, 0);
        law(t, many("v(1=2)", ";", 13) + ";v(i=2)");
        due("the 14th v", t.seen(0, 0), 4);
        law(t, many("v(1=2)", ";", 14));
        due("none of 14 v", t.seen(0, 0), 0);
        law(t, many("j(1=2)", ";", 13) + ";j(k=2)");
        due("the 14th j", t.sky(0, 0, 0), 2);
        law(t, many("j(1=2)", ";", 14));
        due("none of 14 j", t.sky(0, 0, 0), 0);
        law(t, many("w1(1=2)", ";", 13) + ";w7(1=1)");
        due("the 14th w", t.sold(9, 0), 21);
        law(t, many("w1(1=2)", ";", 14));
        due("none of 14 w", t.sold(9, 0), 0);
        law(t, "w1(1=1);" + many("g1(1=2)", ";", 12) + ";g3(1=1)");
        due("the last g", t.sold(9, 2), 9);
        law(t, many("q5(1=2)", ";", 13) + ";q10(1=1)");
        t.steered(0, 0, 1, true);
        due("the 14th q", t.count(2), 0xFFFFFF);
        for (int before = 2; before <= 14; before++) {
            for (String kind : new String[] {"v", "j", "w9", "q9"}) {
                t = new StarTales();
                t.star(0, 0, 0, 1);
                t.star(1, 0, 0, 1);
                t.ship(0, 0, 0);
                // Twice, so that it comes where the first one was.
                law(t, many(kind + "(1=1)", ";", before));
                law(t, many(kind + "(1=1)", ";", before));
                law(t, many(kind + "(1=2)", ";", before - 1));
                due("less of v", t.seen(0, 0), kind.equals("v") ? 0 : 3);
                due("less of j", t.sky(0, 0, 0), 0);
                due("less of w", t.sold(9, 0), 0);
                t.steered(0, 0, 1, true);
                due("less of q", t.count(2), 0);
            }
        }
    }

    private static void open() {
        // Six open are taken, whatever they are.
        String[] six = {"v((((((1=1))))))", "v(!!!!!1=1)", "v([[[[[1]]]]]=1)", "v(1=[[[[[1]]]]])", "v(!(!([1]=1)))",
            "v((!(!(1=1))))", "v(((([[1]]=1))))", "v(!!!!(1=1))", "v(((((!1=1)))))", "w[[[[[[1]]]]]](1=1)",
            "w[[[[[[1]]]]]]((((((1=1))))))", "q1+[[[[[[1]]]]]](!!!!!1=1)", "g[[[[[[1]]]]]]+[[[[[[1]]]]]]([[[[[1]]]]]=1)"};
        for (String text : six) {
            reads(text, 1);
        }
        String[] seven = {"v(((((((1=1)))))))", "v(!!!!!!1=1)", "v([[[[[[1]]]]]]=1)", "v(1=[[[[[[1]]]]]])", "v(!(!([[1]]=1)))",
            "v((!(!((1=1)))))", "v((!(!(!1=1))))", "v(!!!!!(1=1))", "v(!!!!![1]=1)", "v(!!!!!1=[1])", "v((((((!1=1))))))",
            "w[[[[[[[1]]]]]]](1=1)", "q1+[[[[[[[1]]]]]]](1=1)", "v(((((((", "v(!!!!!!", "v([[[[[[", "w[[[[[[["};
        int[] at = {7, 7, 7, 9, 7, 7, 7, 7, 7, 9, 7, 7, 9, 7, 7, 7, 7};
        for (int k = 0; k < seven.length; k++) {
            reads(seven[k], fault(5, at[k]));
        }
        // What is closed again is open no more; a ! is till its PIECE ends.
        String[] again = {"v((((((1=1))))&(((1=1)))))", "v(!!!!!1=1&!!!!!1=1|!!!!!1=1)",
            "v([[[[[1]]]]]+[[[[[1]]]]]=[[[[[1]]]]])", "v((((!!1=1)&!!1=1)&!!1=1)|!!!!!2=2)", "v(!!(!1=1)&!!!!(1=1))"};
        for (String text : again) {
            reads(text, 1);
        }
        reads("v(!!!!!1=1&!!!!!!1=1)", fault(5, 16));
        reads("v(!(1=1&!!!!1=1))", fault(5, 11));
        reads("v(!(1=1&!!!1=1)&!!!!!1=1)", 1);
        reads("v(!(1=1)&((((([1]=1))))))", fault(5, 14));
        // Where one can't stand it is a 1, be it the seventh or not.
        reads("v(!!!!!1[1]=1)", fault(1, 8));
        reads("v(!!!!!1=(1))", fault(1, 9));
        reads("v([[[[[!", fault(1, 7));
        reads("v([[[[[(", fault(1, 7));
        reads("v(!!!!!1=1!", fault(1, 10));
        reads("w[[[[[[(", fault(1, 7));
        // Of several the first from the left.
        reads("v((((((123456(", fault(2, 12));
        reads("v(((((((123456", fault(5, 7));
        reads("v(123456;;", fault(2, 7));
        reads("v(1 23456", fault(1, 3));
    }

    private static void lengths() {
        StarTales t = new StarTales();
        String text = "v(11=11" + many("", "+1", 97) + ")";
        due("200 bytes", text.length(), 200);
        due("200 bytes", law(t, text), 1);
        due("the tape is empty", t.count(7), 0);
        put(t, text);
        due("199 bytes of it", t.law(199), fault(1, 199));
        put(t, text + "                    ");
        due("the tape is full", t.count(7), 220);
        due("201", t.law(201), NONE);
        due("220", t.law(220), NONE);
        due("0", t.law(0), NONE);
        due("the tape stays", t.count(7), 220);
        due("200 of 220", t.law(200), 1);
        due("the rest is gone, too", t.count(7), 0);
        put(t, text.substring(0, 180));
        due("180 are not 200", t.law(200), NONE);
        due("180 are not 181", t.law(181), NONE);
        due("the tape stays", t.count(7), 180);
        due("the law stays", t.count(5), 1);
        due("180", t.law(180), fault(1, 180));
        due("an empty tape", t.law(1), NONE);
        put(t, "v(1=1);j(1=1);w1(1=1)");
        due("the first bytes alone", t.law(13), 2);
        // The greatest depth of what waits on both sides.
        due("deep", law(t, "v(1+1*[1+1*[1+1*[1+1*[1+1*[1+1*1]]]]]=7)"), 1);
        t.star(0, 0, 0, 1);
        due("deep", t.seen(0, 0), 1);
        law(t, "w1+1*[1+1*[1+1*[1+1*[1+1*[1+1*[1+6]]]]]](1+1*[1+1*[1+1*[1+1*[1+1*[2]]]]]=1+1*[1+1*[1+1*[1+1*[1+1*[2]]]]])");
        due("deep", t.sold(9, 0), 13);
    }

    /** What a LAW says star 3 (column 20, row 2, bright 4) is worth, at hour 5 of night 1. */
    private static int worth(String text) {
        StarTales t = new StarTales();
        t.star(3, 20, 2, 4);
        t.hours(24);
        t.hour(5);
        law(t, text);
        return t.sold(999, 0);
    }

    private static void amounts() {
        String[] worths = {"w0(1=1)", "w1(1=1)", "w998(1=1)", "w999(1=1)", "w1000(1=1)", "w99999(1=1)", "w0-1(1=1)",
            "w32768*65536(1=1)", "w32767*65536+65535(1=1)", "w1(1=2)", "g5(1=1)", "w5(1=2);w6(2=2);w7(1=1)",
            "w0-1(1=1);w7(1=1)", "w1/0(1=1);w7(1=1)", "w1%0(1=1)", "w9-1/0(1=1)", "w0*[1/0](1=1)", "w1000(1=2);w3(1=1)"};
        int[] worthsDue = {0, 1, 998, 999, 999, 999, 0, 0, 999, 0, 0, 6, 0, 0, 0, 0, 0, 3};
        for (int k = 0; k < worths.length; k++) {
            due("worth by " + worths[k], worth(worths[k]), worthsDue[k]);
        }
        String[] heavy = {"0", "1", "98", "99", "100", "99999", "0-1", "1/0"};
        int[] heavyDue = {0, 1, 98, 99, 99, 99, 0, 0};
        for (int k = 0; k < heavy.length; k++) {
            StarTales t = new StarTales();
            t.star(0, 0, 0, 1);
            law(t, "w1(1=1);g" + heavy[k] + "(1=1)");
            due("heavy by " + heavy[k], t.sold(999, 2), heavyDue[k]);
            due("just as heavy as " + heavy[k], t.sold(heavyDue[k], 0), 1);
            due("less heavy than " + heavy[k], heavyDue[k] == 0 ? 0 : t.sold(heavyDue[k] - 1, 0), 0);
        }
        StarTales t = new StarTales();
        t.star(0, 0, 0, 1);
        law(t, "w1(1=1)");
        due("no g: it weighs nothing", t.sold(0, 1), 1);
        due("no g: it weighs nothing", t.sold(0, 2), 0);
        law(t, "w1(1=1);g5(1=2);g6(1=1);g7(1=1)");
        due("the first g that holds", t.sold(9, 2), 6);
        String[] tenths = {"0", "1", "5", "9", "10", "11", "99999", "0-1", "1/0"};
        int[] tenthsDue = {0, 1, 5, 9, 10, 10, 10, 0, 0};
        for (int k = 0; k < tenths.length; k++) {
            due("tenths by " + tenths[k], cloudsBy("q" + tenths[k] + "(1=1)", 1), cloudsDue(tenthsDue[k], 1));
        }
        due("no q: no clouds", cloudsBy("v(1=1)", 1), 0);
        due("the first q that holds", cloudsBy("q9(1=2);q10(1=1);q0(1=1)", 1), 0xFFFFFF);
        due("refused q: the next", cloudsBy("q9(1/0=1);q10(1=1)", 1), 0xFFFFFF);
        for (int seed : new int[] {0, 1, 2, 9, 32767, 32768, 65534, 65535}) {
            for (int below = 1; below < 10; below++) {
                due("seed " + seed, cloudsBy("q" + below + "(1=1)", seed), cloudsDue(below, seed));
            }
        }
    }

    private static int cloudsBy(String text, int seed) {
        StarTales t = new StarTales();
        t.star(0, 0, 0, 1);
        t.ship(0, 0, 0);
        t.clouds(0x555555);
        t.seed(seed);
        law(t, text);
        t.steered(0, 0, 1, true);
        long x = seed;
        for (int c = 0; c < 24; c++) {
            x = (25173 * x + 13849) % 65536;
        }
        due("X behind seed " + seed, t.count(8), (int) x);
        return t.count(2);
    }

    private static int cloudsDue(int tenths, int seed) {
        long x = seed;
        int bits = 0;
        for (int c = 0; c < 24; c++) {
            x = (25173 * x + 13849) % 65536;
            bits |= x % 10 < tenths ? 1 << c : 0;
        }
        return bits;
    }

    private static void holds(String condition, boolean want) {
        due(condition, worth("w5(" + condition + ");w6(1=1)"), want ? 5 : 6);
    }

    private static void reckoning() {
        // Beyond 32 bits as the machine does.
        holds("32767*65536+65535>0", true);
        holds("32767*65536+65535+1<0", true);
        holds("32767*65536+65535+1=0-32768*65536", true);
        holds("0-32767*65536-65535-1<0", true);
        holds("0-32767*65536-65535-2>0", true);
        holds("65536*65536=0", true);
        holds("99999*99999=14098*1000*100+65409", true);
        holds("32768*65536/[0-1]=32768*65536", true);
        holds("32768*65536%[0-1]=0", true);
        holds("[0-7]/2=0-3", true);
        holds("[0-7]%2=0-1", true);
        holds("7/[0-2]=0-3", true);
        holds("7%[0-2]=1", true);
        holds("0/5=0", true);
        holds("0%5=0", true);
        // From the left on; * / % ahead of + -.
        holds("9-3-2=4", true);
        holds("9-[3-2]=8", true);
        holds("100/10/5=2", true);
        holds("100/[10/5]=50", true);
        holds("17%10%4=3", true);
        holds("2*3%4=2", true);
        holds("2+3*4=14", true);
        holds("2*3+4=10", true);
        holds("10-2*3-1=3", true);
        holds("3<3", false);
        holds("2<3", true);
        holds("3>3", false);
        holds("3>2", true);
        holds("3=3", true);
        holds("3=2", false);
        holds("00005=5", true);
        // | between & between PIECES.
        holds("1=1|1=1&1=2", true);
        holds("1=2&1=1|1=1", true);
        holds("1=2&1=1|1=2", false);
        holds("1=1&1=1|1=2", true);
        holds("(1=1|1=1)&1=2", false);
        holds("!1=2", true);
        holds("!1=1", false);
        holds("!!1=1", true);
        holds("!!!1=1", false);
        holds("!1=1&1=2", false);
        holds("!(1=1&1=2)", true);
        holds("!1=2&1=1", true);
        holds("!1=1|1=1", true);
        // What is divided by 0: the C as a whole does not hold, where it is asked.
        holds("1/0=0", false);
        holds("1%0=0", false);
        holds("0/0=0", false);
        holds("1/[3-i]=0", false);
        holds("0*[1/0]=0", false);
        holds("!1/0=0", false);
        holds("!!1/0=0", false);
        holds("!(1/0=0)", false);
        holds("((1/0=0))", false);
        holds("1/0=0|1=1", false);
        holds("(1/0=0)|1=1", false);
        holds("(1/0=0|1=1)|1=1", false);
        holds("!(1/0=0|1=1)|1=1", false);
        holds("1=1&1/0=0|1=1", false);
        holds("1=2|1/0=0|1=1", false);
        holds("1=1|1/0=0", true);
        holds("1=2&1/0=0", false);
        holds("1=2&1/0=0|1=1", true);
        holds("!(1=2&1/0=0)", true);
        holds("!(1=1|1/0=0)", false);
        holds("!!(1=1|1/0=0)", true);
        holds("(1=1|1/0=0)&1=1", true);
        holds("1=1|1/0=0&1/0=0", true);
        holds("1=2&1/0=0&1/0=0|1=1", true);
        holds("1=2&(1/0=0|1=1)|1=1", true);
        holds("(1=2|1=1|1/0=0)&(1=2|1=1)", true);
    }

    /** Each letter at its least and its greatest; those that are not told are 0. */
    private static void letters() {
        StarTales t = new StarTales();
        t.sight(11, 11);
        for (int i : new int[] {0, 23}) {
            t.star(i, i, i == 0 ? 0 : 11, i == 0 ? 1 : 9);
        }
        t.hours(240);
        t.hours(23);
        // Now star 0 stands at column 23, star 23 at 22.
        sells(t, "i=0&m=1&r=0&c=23&h=23&u=10", 1);
        sells(t, "i=23&m=9&r=11&c=22&h=23&u=10", 1 << 23);
        sells(t, "k+n+s+e+x+y+d=0", 1 | 1 << 23);
        due("v", law(t, "v(x=23&y=0&d=0&i=0&m=1&r=0&c=23&h=23&u=10&k+n+s+e=0)"), 1);
        due("v", t.seen(23, 0), 1);
        due("v elsewhere", t.seen(22, 0), 0);
        due("v", law(t, "v(x=0&y=0&d=13&i=23&c=22&r=11&m=9)"), 1);
        due("v", t.seen(0, 0), 1 << 23);
        due("j", law(t, "j(i=0&m=1&r=0&c=23&k=23&n=9&s=11&e=22&d=12&x=3&y=5&h=23&u=10)"), 1);
        due("j", t.line(3, 5, 0, 23), 1);
        due("j, the higher one first", t.line(3, 5, 23, 0), 1);
        due("behind line() there is no other one", law(t, "v(k+n+s+e=0);j(k>0)"), 1 + 1);
        due("behind line() there is no other one", t.line(3, 5, 0, 23), 1);
        due("behind line() there is no other one", t.seen(3, 5), 1 | 1 << 23);
        tale(t, "AB");
        due("nor behind the first place of where()", t.where(0), 264);
        due("j, no star is both", law(t, "j(i=23)"), 1);
        due("j, the lower one is i", t.line(3, 5, 0, 23), 0);
        // What the calls ahead of it told of another STAR or PLACE is told no more.
        sells(t, "k+n+s+e+x+y+d=0", 1 | 1 << 23);
        t.ship(0, 0, 0);
        due("q", law(t, "v(k+n+s+e=0&x=0&y=0&d+i>0);q10(i+m+r+k+n+s+e+x+y+d=0&c>0)"), 2);
        t.steered(0, 23, 1, true);
        due("q: all but column 0", t.count(2), 0xFFFFFE);
        t.hour(23);
        law(t, "q10(c=23&h=23&u=11)");
        t.steered(0, 23, 1, true);
        due("q: the last column, in the last hour", t.count(2), 1 << 23);
        due("q: behind it", t.count(1), 12);
        law(t, "q10(h=0&u=12&c=0)");
        t.steered(0, 23, 1, true);
        due("q: the first column, in the first hour", t.count(2), 1);
    }

    private static void sells(StarTales t, String condition, int want) {
        law(t, "w1(" + condition + ")");
        due("sold where " + condition, t.sold(999, 1), want);
        law(t, "w1(1=1);g1(" + condition + ")");
        due("heavy where " + condition, t.sold(999, 2), Integer.bitCount(want));
    }

    private static int tell(String text) {
        StarTales t = new StarTales();
        tale(t, "AB;CD");
        int answer = tale(t, text);
        due("lines after " + text, t.count(6), answer > 0 ? answer : 2);
        due("the tape after " + text, t.count(7), 0);
        return answer;
    }

    private static void tells(String text, int want) {
        due("tale " + text, tell(text), want);
    }

    private static void tales() {
        for (int n = 1; n <= 12; n++) {
            tells(TWELVE.substring(0, 3 * n - 1), n);
        }
        for (int n = 1; n < TWELVE.length(); n++) {
            if (n % 3 != 2) {
                tells(TWELVE.substring(0, n), fault(1, n));
            }
        }
        for (int at = 0; at < TWELVE.length(); at++) {
            for (char sign : new char[] {' ', 0, '@', 'I', 'a', 'h', 128, 255, ',', ':', '<'}) {
                tells(TWELVE.substring(0, at) + sign + TWELVE.substring(at + 1), fault(1, at));
            }
        }
        for (int sign = 0; sign < 256; sign++) {
            boolean isName = sign >= 'A' && sign <= 'H';
            tells((char) sign + "A", sign == 'A' ? fault(3, 1) : isName ? 1 : fault(1, 0));
            tells("H" + (char) sign, sign == 'H' ? fault(3, 1) : isName ? 1 : fault(1, 1));
        }
        for (int n = 1; n < TWELVE.length(); n++) {
            StarTales t = new StarTales();
            put(t, TWELVE);
            due("the first " + n + " of twelve", t.tale(n), n % 3 == 2 ? (n + 1) / 3 : fault(1, n));
        }
        tells("ABC", fault(1, 2));
        tells("AB;;CD", fault(1, 3));
        tells(";AB", fault(1, 0));
        tells("AA", fault(3, 1));
        tells("HH", fault(3, 1));
        tells("AB;CC", fault(3, 4));
        tells("AB;AB", fault(6, 3));
        tells("AB;BA", fault(6, 3));
        tells("AB;CD;EF;BA", fault(6, 9));
        tells("AB;AB;", fault(6, 3));
        tells("AB;BA;AA", fault(6, 3));
        tells("AB;AA;AB", fault(3, 4));
        tells("AB;A", fault(1, 4));
        tells("AB;A;", fault(1, 4));
        tells(TWELVE + ";BH", fault(4, 36));
        tells(TWELVE + ";H", fault(4, 36));
        tells(TWELVE + ";HH", fault(4, 36));
        tells(TWELVE + ";I", fault(1, 36));
        tells(TWELVE + ";", fault(1, 36));
        tells(TWELVE + ";;", fault(1, 36));
        tells(TWELVE + "BH", fault(1, 35));
        tells(TWELVE.substring(0, 33) + "AB", fault(6, 33));
        tells(TWELVE.substring(0, 33) + "GG", fault(3, 34));
        tells(many("AB", ";", 20), fault(6, 3));

        StarTales t = new StarTales();
        String sixty = TWELVE + many(" ", "", 25);
        due("60 bytes", tale(t, sixty), fault(1, 35));
        due("the tape is empty", t.count(7), 0);
        put(t, "AB;CD");
        due("the first bytes alone", t.tale(2), 1);
        due("the rest is gone, too", t.count(7), 0);
        put(t, sixty);
        due("61", t.tale(61), NONE);
        due("0", t.tale(0), NONE);
        due("the tape stays", t.count(7), 60);
        due("35 of 60", t.tale(35), 12);
        put(t, TWELVE);
        due("40 are not 41", t.tale(41), NONE);
        due("40 are not 60", t.tale(60), NONE);
        due("the tape stays", t.count(7), 40);
        due("the tale stays", t.count(6), 12);
        due("an empty text", t.tale(0), NONE);
        due("35 of 40", t.tale(35), 12);
        due("an empty tape", t.tale(1), NONE);
    }

    public static void main(String[] args) {
        whatCantStand();
        digits();
        clauses();
        lastClause();
        open();
        lengths();
        amounts();
        reckoning();
        letters();
        tales();
        tellAndEnd();
    }
}
