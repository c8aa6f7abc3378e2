/** Each promise by its number: ordinary inputs, the edges that the document names, wrong inputs. */
public final class PromisesTest extends Asking {
    private static void newObject() {
        StarTales t = new StarTales();
        int[] want = {0, 0, 0, 0, 0, 0, 0, 0, 1, 403, 0};
        for (int what = 0; what < want.length; what++) {
            due(1, "count " + what, t.count(what), want[what]);
        }
        for (int i = -1; i <= 24; i++) {
            due(1, "starIs", t.starIs(i, 0), -1);
        }
        due(1, "undo", t.undo(), false);
        due(1, "NONE", StarTales.NONE, -1);
    }

    private static void stars() {
        StarTales t = new StarTales();
        due(2, "least", t.star(0, 0, 0, 1), true);
        due(2, "most", t.star(23, 23, 11, 9), true);
        due(2, "i -1", t.star(-1, 0, 0, 1), false);
        due(2, "i 24", t.star(24, 0, 0, 1), false);
        due(2, "column -1", t.star(0, -1, 0, 1), false);
        due(2, "column 24", t.star(0, 24, 0, 1), false);
        due(2, "row -1", t.star(0, 0, -1, 1), false);
        due(2, "row 12", t.star(0, 0, 12, 1), false);
        due(2, "bright 0", t.star(0, 0, 0, 0), false);
        due(2, "bright 10", t.star(0, 0, 0, 10), false);
        due(2, "two are told", t.count(3), 2);
        t.walk(0, 2, -2);
        due(2, "anew", t.star(0, 5, 6, 7), true);
        due(2, "anew: column", t.starIs(0, 0), 5);
        due(2, "anew: no walk", t.starIs(0, 4), 3);
        due(2, "anew: no walk", t.starIs(0, 5), 3);

        due(3, "least", t.walk(0, -3, -3), true);
        due(3, "most", t.walk(0, 3, 3), true);
        due(3, "columns 4", t.walk(0, 4, 0), false);
        due(3, "columns -4", t.walk(0, -4, 0), false);
        due(3, "rows 4", t.walk(0, 0, 4), false);
        due(3, "rows -4", t.walk(0, 0, -4), false);
        due(3, "not told", t.walk(1, 0, 0), false);
        due(3, "no star", t.walk(24, 0, 0), false);
        due(3, "no star", t.walk(-1, 0, 0), false);
        due(3, "as it was", t.starIs(0, 4), 6);
        due(3, "as it was", t.starIs(0, 5), 6);
        t.hours(24);
        due(3, "goes", t.starIs(0, 0), 8);
        due(3, "goes", t.starIs(0, 1), 9);
        t.hours(24);
        due(3, "to row 11 at most", t.starIs(0, 1), 11);
        t.walk(0, -3, -3);
        t.hours(240);
        due(3, "round", t.starIs(0, 0), (11 - 30 + 48) % 24);
        due(3, "to row 0 at most", t.starIs(0, 1), 0);

        due(4, "gone", t.gone(0), true);
        due(4, "gone twice", t.gone(0), false);
        due(4, "no star", t.gone(-1), false);
        due(4, "no star", t.gone(24), false);
        due(4, "one is told", t.count(3), 1);
        due(4, "not told", t.starIs(0, 0), -1);
    }

    private static void starIs() {
        StarTales t = new StarTales();
        t.star(7, 20, 3, 9);
        t.walk(7, -1, 2);
        t.hour(10);
        int[] want = {20, 3, 9, 6, 2, 5};
        for (int what = 0; what < 6; what++) {
            due(13, "what " + what, t.starIs(7, what), want[what]);
        }
        due(13, "what 6", t.starIs(7, 6), -1);
        due(13, "what -1", t.starIs(7, -1), -1);
        due(13, "not told", t.starIs(8, 0), -1);
    }

    private static void settings() {
        StarTales t = new StarTales();
        due(5, "23", t.hour(23), true);
        due(5, "24", t.hour(24), false);
        due(5, "-1", t.hour(-1), false);
        due(5, "the hour", t.count(0), 23);
        due(5, "the night stays", t.count(1), 0);
        due(6, "all", t.clouds(0xFFFFFF), true);
        due(6, "a bit too many", t.clouds(0x1000000), false);
        due(6, "-1", t.clouds(-1), false);
        due(6, "clouds", t.count(2), 0xFFFFFF);
        due(7, "least", t.sight(0, 0), true);
        due(7, "most", t.sight(11, 11), true);
        due(7, "columns 12", t.sight(12, 0), false);
        due(7, "columns -1", t.sight(-1, 0), false);
        due(7, "rows 12", t.sight(0, 12), false);
        due(7, "rows -1", t.sight(0, -1), false);
        due(7, "sight", t.count(9), 1111);
    }

    private static void landAndShips() {
        StarTales t = new StarTales();
        due(8, "land", t.land(23, 11, true), true);
        due(8, "land twice", t.land(23, 11, true), true);
        due(8, "one", t.count(10), 1);
        due(8, "sea", t.land(23, 11, false), true);
        due(8, "none", t.count(10), 0);
        due(8, "x 24", t.land(24, 0, true), false);
        due(8, "x -1", t.land(-1, 0, true), false);
        due(8, "y 12", t.land(0, 12, true), false);
        due(8, "y -1", t.land(0, -1, true), false);
        t.ship(5, 3, 4);
        due(8, "a ship", t.land(3, 4, true), false);
        due(8, "a ship, sea", t.land(3, 4, false), false);
        t.land(0, 0, true);
        due(9, "land", t.ship(0, 0, 0), false);
        due(9, "s 6", t.ship(6, 1, 1), false);
        due(9, "s -1", t.ship(-1, 1, 1), false);
        due(9, "x 24", t.ship(0, 24, 1), false);
        due(9, "x -1", t.ship(0, -1, 1), false);
        due(9, "y 12", t.ship(0, 1, 12), false);
        due(9, "y -1", t.ship(0, 1, -1), false);
        due(9, "in place", t.ship(5, 23, 11), true);
        due(9, "where", t.count(25), 287);
        due(9, "two at a place", t.ship(0, 23, 11), true);
        due(9, "bits", t.count(4), 33);
        due(9, "land behind it", t.land(3, 4, true), true);
    }

    private static void tape() {
        StarTales t = new StarTales();
        for (int k = 1; k <= 11; k++) {
            due(10, "feed", t.feed(0, 0, 0, 0, k), 20 * k);
        }
        due(10, "full", t.feed(0, 0, 0, 0, 0), -1);
        due(10, "full", t.count(7), 220);
        t.check(0);
        t.feed(0x41424344, 0, 0, 0, 0);
        due(10, "highest byte first", t.tale(2), 1);
        due(10, "empty then", t.count(7), 0);
    }

    private static void laws() {
        StarTales t = new StarTales();
        due(11, "no tape", t.law(1), -1);
        t.feed(0x76283D31, 0, 0, 0, 0);
        due(11, "0", t.law(0), -1);
        due(11, "-1", t.law(-1), -1);
        due(11, "21", t.law(21), -1);
        due(11, "201", t.law(201), -1);
        due(11, "the tape stays", t.count(7), 20);
        due(11, "a fault", t.law(4), -1002);
        due(11, "the tape is empty", t.count(7), 0);
        due(11, "letters", law(t, "v(h+u+i+m+r+c+k+n+s+e+x+y+d=0)"), 1);
        due(11, "all kinds", law(t, "v(1=1);j(1<2);w5(3>2);g5(1=1);q5(1=1)"), 5);
        due(11, "count", t.count(5), 5);
        due(11, "faulty", law(t, "v(1=1);"), -1007);
        due(11, "the one before stays", t.count(5), 5);
        String[] faulty = {"", "V", "v1", "v(", "v()", "v(1)", "v(1=)", "v(1=1", "v(1=1)x", "v(1=1=1)", "v(1=1&)",
            "v(1=1|)", "v(!)", "v(1 =1)", "v(1==1)", "v((1=1)", "v((1)=1)", "v([1=1])", "v([1]]=1)", "v(-1=1)",
            "v(1+=1)", "v(1++1=1)", "v(a=1)", "v(v=1)", "w(1=1)", "w1=1(1=1)", "wb", "v(1=1)v(1=1)", "v(1=1);;",
            "v(1=1))", "v(!1=1&!!(1=1)!)", "w[1(1=1)", "w[](1=1)", "v(1*/1=1)"};
        int[] at = {0, 0, 1, 2, 2, 3, 4, 5, 6, 5, 6, 6, 3, 3, 4, 7, 4, 4, 5, 2, 4, 4, 2, 2, 1, 2, 1, 6, 7, 6, 14, 3, 2, 4};
        for (int k = 1; k < faulty.length; k++) {
            due(11, faulty[k], law(t, faulty[k]), -1000 - at[k]);
        }
        due(11, "five digits", law(t, "w99999(00000=0)"), 1);
        due(11, "six digits", law(t, "v(123456=1)"), -2007);
        due(11, "six digits, the end is further", law(t, "w1234567"), -2006);
        due(11, "six open", law(t, "v(!(!([h]=0)))"), 1);
        due(11, "seven open [", law(t, "v(!(!([[h]]=0)))"), -5007);
        due(11, "six open", law(t, "v(!(!((h=0))))"), 1);
        due(11, "seven open (", law(t, "v(!(!(((h=0)))))"), -5007);
        due(11, "seven open !", law(t, "v(!!!!!!h=0)"), -5007);
        due(11, "! is open till its piece ends", law(t, "v(!!!!!h=0&!!!!!h=0)"), 1);
        due(11, "! is open till its piece ends", law(t, "v(!!!!!h=[0])"), -5009);
        due(11, "the E stands ahead", law(t, "w[[[[[[h]]]]]](!!!!!h=0)"), 1);
        due(11, "the E, too deep", law(t, "w[[[[[[[h]]]]]]](!!!!!h=0)"), -5007);
        due(11, "14", law(t, many("v(1=1)", ";", 14)), 14);
        due(11, "15", law(t, many("v(1=1)", ";", 15)), -4098);
        due(11, "15, no letter", law(t, many("v(1=1)", ";", 14) + ";x"), -1098);
        due(11, "15, the end", law(t, many("v(1=1)", ";", 14) + ";"), -1098);
        String longest = "v(1=" + many("1", "+", 97) + ")";
        due(11, "200 bytes less two", law(t, longest), 1);
        due(11, "200 bytes", law(t, "v(11=1" + longest.substring(4)), 1);
    }

    /** What a LAW of one w says of star 3 (column 20, row 2, bright 4) at hour 5. */
    private static int worth(StarTales t, String clauses) {
        law(t, clauses);
        return t.sold(999, 0);
    }

    private static void reckoning() {
        StarTales t = new StarTales();
        t.star(3, 20, 2, 4);
        t.hours(24);
        t.hour(5);
        due(11, "i m r c h u", worth(t, "wi*100+m*10+r(c=1&h=5&u=1)"), 342);
        due(11, "others are 0", worth(t, "w7(k+n+s+e+x+y+d=0)"), 7);
        due(11, "from the left", worth(t, "w100-30-20(1=1)"), 50);
        due(11, "from the left", worth(t, "w100/7*3%5(1=1)"), 100 / 7 * 3 % 5);
        due(11, "* ahead of +", worth(t, "w2+3*4(1=1)"), 14);
        due(11, "brackets", worth(t, "w[2+3]*4(1=1)"), 20);
        due(11, "below its bounds", worth(t, "w0-5(1=1)"), 0);
        due(11, "beyond its bounds", worth(t, "w1000(1=1)"), 999);
        due(11, "32 bits", worth(t, "w7(99999*99999/99999=14098)"), 7);
        due(11, "32 bits", worth(t, "w7(50000*50000<0)"), 7);
        due(11, "the first that holds", worth(t, "w1(1=2);w2(1=1);w3(1=1)"), 2);
        due(11, "none holds", worth(t, "w1(1=2)"), 0);
        due(11, "refused E is 0", worth(t, "w5/[i-3](1=1);w6(1=1)"), 0);
        due(11, "refused C", worth(t, "w5(1/0=1);w6(1=1)"), 6);
        due(11, "refused C through !", worth(t, "w5(!1/0=1);w6(1=1)"), 6);
        due(11, "refused C through ( ) and |", worth(t, "w5((1%0=1)|1=1);w6(1=1)"), 6);
        due(11, "not asked behind |", worth(t, "w5(1=1|1/0=1);w6(1=1)"), 5);
        due(11, "not asked behind &", worth(t, "w5(1=2&1/0=1|1=1);w6(1=1)"), 5);
        due(11, "asked behind &", worth(t, "w5(1=1&1/0=1|1=1);w6(1=1)"), 6);
        due(11, "& ahead of |", worth(t, "w5(1=1|1=1&1=2);w6(1=1)"), 5);
        due(11, "! of a piece", worth(t, "w5(!1=1&1=2);w6(1=1)"), 6);
        due(11, "! of brackets", worth(t, "w5(!(1=1&1=2));w6(1=1)"), 5);
        due(11, "!!", worth(t, "w5(!!1=1);w6(1=1)"), 5);
        due(11, "<", worth(t, "w5(1<1|2<1);w6(1<2)"), 6);
        due(11, ">", worth(t, "w5(1>1|1>2);w6(2>1)"), 6);
    }

    private static void tales() {
        StarTales t = new StarTales();
        due(12, "no tape", t.tale(1), -1);
        put(t, "AB;");
        due(12, "0", t.tale(0), -1);
        due(12, "61", t.tale(61), -1);
        due(12, "21", t.tale(21), -1);
        due(12, "the tape stays", t.count(7), 20);
        due(12, "two", t.tale(2), 1);
        due(12, "empty then", t.count(7), 0);
        String[] text = {"A", "AI", "@A", "ABC", "AB;", "AB;;", "AA", "AB;HH", "AB;BA", "AB;CD;DC", "AB;A", "AB;AB;CC"};
        int[] fault = {-1001, -1001, -1000, -1002, -1003, -1003, -3001, -3004, -6003, -6006, -1004, -6003};
        for (int k = 0; k < text.length; k++) {
            due(12, text[k], tale(t, text[k]), fault[k]);
        }
        due(12, "the one before stays", t.count(6), 1);
        String twelve = "AB;AC;AD;AE;AF;AG;AH;BC;BD;BE;BF;BG";
        due(12, "twelve", tale(t, twelve), 12);
        due(12, "count", t.count(6), 12);
        due(12, "thirteen", tale(t, twelve + ";BH"), -4036);
        due(12, "thirteen, but one name", tale(t, twelve + ";B"), -4036);
        due(12, "thirteen, no name", tale(t, twelve + ";x"), -1036);
        due(12, "60 bytes", tale(t, twelve + "; 3456789 123456789 1234"), -1036);
    }

    private static void seeing() {
        StarTales t = new StarTales();
        t.star(0, 23, 3, 1);
        t.sight(2, 1);
        due(14, "there", t.seen(23, 3), 1);
        due(14, "round the edge", t.seen(1, 3), 1);
        due(14, "too far round", t.seen(2, 3), 0);
        due(14, "to the left", t.seen(21, 4), 1);
        due(14, "too far to the left", t.seen(20, 3), 0);
        due(14, "two rows off", t.seen(23, 5), 0);
        due(14, "x 24", t.seen(24, 0), -1);
        due(14, "x -1", t.seen(-1, 0), -1);
        due(14, "y 12", t.seen(0, 12), -1);
        due(14, "y -1", t.seen(0, -1), -1);
        t.hour(1);
        due(14, "it turns", t.seen(2, 3), 1);
        t.clouds(1);
        due(14, "clouded where it stands", t.seen(2, 3), 0);
        t.clouds(1 << 23);
        due(14, "clouded elsewhere", t.seen(2, 3), 1);
        law(t, "j(1=1)");
        due(14, "no v: all", t.seen(1, 3), 1);
        law(t, "v(x=1);v(d=3)");
        due(14, "any v: the first", t.seen(1, 3), 1);
        due(14, "any v: the second", t.seen(2, 4), 1);
        due(14, "no v holds", t.seen(2, 3), 0);
        due(14, "y", law(t, "v(y=4&k+n+s+e=0)"), 1);
        due(14, "y", t.seen(1, 4), 1);
        due(14, "y", t.seen(1, 3), 0);
    }

    private static void lines() {
        StarTales t = fiveStars();
        due(15, "a line", t.line(11, 5, 0, 1), 1);
        due(15, "the other way round", t.line(11, 5, 1, 0), 1);
        due(15, "too far", t.line(11, 5, 0, 4), 0);
        due(15, "one is not seen", t.line(11, 4, 2, 3), 0);
        due(15, "one twice", t.line(11, 5, 1, 1), -1);
        due(15, "not told", t.line(11, 5, 1, 5), -1);
        due(15, "no star", t.line(11, 5, 1, 24), -1);
        due(15, "no star", t.line(11, 5, -1, 1), -1);
        due(15, "no place", t.line(24, 5, 0, 1), -1);
        law(t, "v(1=1)");
        due(15, "no j: none", t.line(11, 5, 0, 1), 0);
        law(t, "j(i=0&k=1&m=1&n=2&r=5&s=5&c=10&e=12&d=2&x=11&y=5)");
        due(15, "letters", t.line(11, 5, 1, 0), 1);
        due(15, "the place", t.line(12, 5, 1, 0), 0);
        law(t, "j(k=3);j(k=2)");
        due(15, "any j", t.line(11, 6, 0, 2), 1);
        law(t, "j(1/[i-0]=0|1=1)");
        due(15, "refused", t.line(11, 6, 0, 2), 0);
        due(15, "not refused", t.line(11, 6, 1, 2), 1);

        t = fiveStars();
        int[] want = {4, 2, 4, 1, 1, 2, 3};
        for (int what = 0; what < 7; what++) {
            due(16, "what " + what, t.sky(11, 5, what), want[what]);
        }
        int[] nothing = {0, 0, 0, 0, 0, -1, 0};
        for (int what = 0; what < 7; what++) {
            due(16, "nothing is seen, what " + what, t.sky(0, 5, what), nothing[what]);
        }
        due(16, "what 7", t.sky(11, 5, 7), -1);
        due(16, "what -1", t.sky(11, 5, -1), -1);
        due(16, "no place", t.sky(11, 12, 0), -1);
        law(t, "v(1=1)");
        due(16, "alone: figures", t.sky(11, 5, 1), 5);
        due(16, "alone: largest", t.sky(11, 5, 2), 1);
        due(16, "alone: the lowest", t.sky(11, 5, 5), 0);

        t = fiveStars();
        due(17, "four", t.figure(11, 5, 3), 15);
        due(17, "alone", t.figure(11, 5, 4), 16);
        due(17, "not seen", t.figure(11, 4, 3), -2);
        due(17, "not told", t.figure(11, 5, 5), -1);
        due(17, "no star", t.figure(11, 5, 24), -1);
        due(17, "no place", t.figure(-1, 5, 0), -1);
    }

    private static void matching() {
        StarTales t = fiveStars();
        due(18, "no tale", t.matched(11, 5, -1), -2);
        due(18, "no tale", t.matched(11, 5, 0), -2);
        due(18, "no place ahead", t.matched(24, 5, 0), -3);
        due(18, "no such what ahead", t.matched(11, 5, -2), -3);
        due(18, "no such what ahead", t.matched(11, 5, 8), -3);
        tale(t, "AB;BC;CA;CD");
        due(18, "ways", t.matched(11, 5, -1), 2);
        int[] want = {0, 1, 2, 3, -2, -2, -2, -2};
        for (int what = 0; what < 8; what++) {
            due(18, "name " + what, t.matched(11, 5, what), want[what]);
        }
        tale(t, "HG");
        due(18, "ways", t.matched(11, 5, -1), 8);
        due(18, "G", t.matched(11, 5, 6), 0);
        due(18, "H", t.matched(11, 5, 7), 1);
        due(18, "A", t.matched(11, 5, 0), -2);
        tale(t, "AB;CD;EF");
        due(18, "it can't be", t.matched(11, 5, -1), 0);
        due(18, "it can't be", t.matched(11, 5, 0), -2);
        StarTales all = new StarTales();
        for (int i = 0; i < 24; i++) {
            all.star(i, 10, 5, 1);
        }
        law(all, "j(1=1)");
        tale(all, "AB;CD");
        due(18, "no more than 10000", all.matched(10, 5, -1), 10000);
        for (int i = 11; i < 24; i++) {
            all.gone(i);
        }
        due(18, "fewer", all.matched(10, 5, -1), 11 * 10 * 9 * 8);
    }

    private static void whereAndWhen() {
        StarTales t = fiveStars();
        due(19, "no tale", t.where(0), -1);
        due(20, "no tale", t.when(11, 5), -1);
        tale(t, "AB;BC;CA");
        t.land(8, 4, true);
        // From x 8 to 14 and y 4 to 8 all three are seen; land is a place, too.
        due(19, "how many", t.where(0), 7 * 5);
        due(19, "the first", t.where(1), 24 * 4 + 8);
        due(19, "what 2", t.where(2), -1);
        due(19, "what -1", t.where(-1), -1);
        tale(t, "AB;BC;CA;AD;BD");
        due(19, "nowhere", t.where(0), 0);
        due(19, "nowhere", t.where(1), -2);
        tale(t, "AB;BC;CA");
        due(20, "hours", t.when(11, 5), 0b111000000000000000001111);
        due(20, "never", t.when(11, 11), 0);
        due(20, "no place", t.when(11, 12), -1);
        due(20, "no place", t.when(24, 5), -1);
        t.hour(3);
        due(20, "at any hour", t.when(11, 5), 0b111000000000000000001111);
        due(20, "the hour stays", t.count(0), 3);
        law(t, "j(h<2)");
        due(20, "by the law", t.when(11, 5), 3);
        law(t, "j(d<4)");
        t.clouds(1 << 11);
        due(20, "by clouds", t.when(11, 5), 0b011000000000000000001100);
    }

    private static void patches() {
        StarTales t = new StarTales();
        t.sight(1, 1);
        due(21, "nothing is seen anywhere", t.alike(0), 0);
        due(21, "none", t.alike(1), -2);
        due(21, "none", t.alike(2), -2);
        t.star(0, 5, 5, 3);
        t.star(1, 15, 6, 3);
        t.star(2, 20, 6, 4);
        due(21, "how many", t.alike(0), 18);
        due(21, "the first", t.alike(1), 24 * 4 + 4);
        due(21, "the second", t.alike(2), 24 * 5 + 14);
        due(21, "what 3", t.alike(3), -1);
        due(21, "what -1", t.alike(-1), -1);
        t.star(3, 23, 1, 3);
        due(21, "round the edge", t.alike(1), 0);

        due(22, "no tape", t.known(1, 0), -1);
        put(t, 13, 11, 3);
        due(22, "n 0", t.known(0, 0), -1);
        due(22, "n 13", t.known(13, 0), -1);
        due(22, "n 7", t.known(7, 0), -1);
        due(22, "what 4", t.known(1, 4), -1);
        due(22, "what -1", t.known(1, -1), -1);
        due(22, "the tape stays", t.count(7), 20);
        due(22, "how many", t.known(1, 0), 3);
        due(22, "empty then", t.count(7), 0);
        put(t, 13, 11, 3);
        due(22, "the first", t.known(1, 1), 24 * 2 + 22);
        put(t, 13, 11, 5);
        due(22, "none", t.known(1, 0), 0);
        put(t, 13, 11, 5);
        due(22, "none", t.known(1, 1), -2);
        t.star(4, 15, 6, 9);
        put(t, 13, 11, 3);
        due(22, "just it", t.known(1, 2), 2);
        put(t, 12, 12, 3, 12, 12, 9);
        due(22, "just them, the first", t.known(2, 3), 24 * 6 + 15);
        put(t, 12, 12, 9, 12, 12, 3, 14, 12, 3, 1, 1, 1, 2, 2, 2, 3, 3, 3);
        due(22, "18 of 20 bytes", t.known(6, 0), 0);
        put(t, 12, 12, 9, 12, 12, 9);
        due(22, "one of two", t.known(2, 3), -2);
    }

    private static void naming() {
        StarTales t = fiveStars();
        put(t, 11, 5, 11, 4, 0, 0);
        due(23, "n 1", t.named(1, 0), -1);
        due(23, "n 9", t.named(9, 0), -1);
        due(23, "what 2", t.named(2, 2), -1);
        due(23, "what -1", t.named(2, -1), -1);
        due(23, "the tape stays", t.count(7), 20);
        due(23, "one", t.named(2, 0), 1);
        due(23, "empty then, none", t.named(2, 0), -1);
        put(t, 11, 5, 11, 4);
        due(23, "which", t.named(2, 1), 8);
        put(t, 11, 5, 11, 4, 0, 0);
        due(23, "two", t.named(3, 0), 2);
        put(t, 11, 5, 11, 4, 0, 0);
        due(23, "which", t.named(3, 1), 9);
        put(t, 11, 5, 11, 5);
        due(23, "one twice", t.named(2, 0), -2);
        put(t, 0, 0, 0, 1);
        due(23, "it can't be", t.named(2, 1), -2);
        put(t, 24, 0, 0, 1);
        due(23, "no place", t.named(2, 1), -2);
        put(t, 0, 12, 0, 1);
        due(23, "no place", t.named(2, 1), -2);
        StarTales eight = new StarTales();
        eight.sight(0, 0);
        int[] places = new int[16];
        for (int i = 0; i < 8; i++) {
            eight.star(i + 3, i, 0, 1);
            places[2 * i] = i;
        }
        put(eight, places);
        due(23, "each its own star: seven", eight.named(8, 0), 7);
        put(eight, places);
        due(23, "the least bits", eight.named(8, 1), 0x7F << 3);
    }

    private static void selling() {
        StarTales t = new StarTales();
        due(24, "no stars", t.sold(999, 0), 0);
        int[] row = {5, 4, 3, 5, 0};
        for (int i = 0; i < 5; i++) {
            t.star(i, i, row[i], i == 3 ? 9 : i + 1);
        }
        // Worth: 10, 20, 30, 90, 50; heavy: 5, 4, 3, 5, 0.
        law(t, "wm*10(1=1);gr(1=1)");
        due(24, "most 0: what is light", t.sold(0, 1), 16);
        due(24, "most 0: worth", t.sold(0, 0), 50);
        due(24, "most 8", t.sold(8, 0), 50 + 90 + 30);
        due(24, "most 8", t.sold(8, 1), 16 + 8 + 4);
        due(24, "most 8", t.sold(8, 2), 8);
        due(24, "most 999", t.sold(999, 1), 31);
        due(24, "most 999", t.sold(999, 2), 17);
        due(24, "most 1000", t.sold(1000, 0), -1);
        due(24, "most -1", t.sold(-1, 0), -1);
        due(24, "what 3", t.sold(5, 3), -1);
        due(24, "what -1", t.sold(5, -1), -1);
        law(t, "w10(1=1);g1(1=1)");
        due(24, "like ones: the least bits", t.sold(3, 1), 7);
        law(t, "w10(i>1);g1(1=1)");
        due(24, "what is worth nothing stays", t.sold(5, 1), 28);
        law(t, "w10(1=1);g1000(i<2);g50(1=1)");
        due(24, "99 at most", t.sold(99, 2), 99);
        due(24, "99 at most", t.sold(99, 1), 1);
    }

    private static void steering() {
        StarTales t = new StarTales();
        t.star(0, 4, 4, 1);
        t.star(1, 4, 9, 1);
        t.star(2, 0, 4, 1);
        t.ship(0, 2, 4);
        due(25, "no ship", t.steered(1, 0, 1, false), -1);
        due(25, "no ship", t.steered(6, 0, 1, false), -1);
        due(25, "no star", t.steered(0, 3, 1, false), -1);
        due(25, "no star", t.steered(0, 24, 1, false), -1);
        due(25, "n 0", t.steered(0, 0, 0, false), -1);
        due(25, "n 49", t.steered(0, 0, 49, false), -1);
        due(25, "the hour stays", t.count(0), 0);
        due(25, "to the right", t.steered(0, 0, 1, false), 24 * 4 + 3);
        due(25, "the hour goes", t.count(0), 1);
        t.hour(0);
        due(25, "to the left", t.steered(0, 2, 1, false), 24 * 4 + 2);
        t.hour(0);
        due(25, "not seen", t.steered(0, 1, 1, false), 24 * 4 + 2);
        t.hour(0);
        t.land(3, 4, true);
        due(25, "land", t.steered(0, 0, 1, false), 24 * 4 + 2);
        t.land(3, 4, false);
        t.hour(0);
        t.ship(0, 4, 4);
        due(25, "it is there", t.steered(0, 0, 1, false), 24 * 4 + 4);
        t.hour(0);
        t.ship(0, 3, 3);
        due(25, "like ones: by x", t.steered(0, 0, 1, false), 24 * 3 + 4);
        t.hour(0);
        t.ship(0, 3, 1);
        due(25, "by y", t.steered(0, 0, 1, false), 24 * 2 + 3);
        t.hour(0);
        t.ship(0, 4, 7);
        due(25, "down", t.steered(0, 0, 1, false), 24 * 6 + 4);
        t.hour(0);
        t.ship(0, 22, 4);
        due(25, "round the edge", t.steered(0, 2, 1, false), 24 * 4 + 23);
        due(25, "round the edge", t.steered(0, 2, 1, false), 24 * 4);
        t.hour(23);
        t.walk(0, 1, 1);
        t.steered(0, 0, 1, false);
        due(25, "behind 23 comes 0", t.count(0), 0);
        due(25, "another night", t.count(1), 1);
        due(25, "stars walk", t.starIs(0, 0), 5);
        due(25, "stars walk", t.starIs(0, 1), 5);
        drawing(t);
    }

    private static void drawing(StarTales t) {
        law(t, "qc/2(c<20)");
        t.seed(1);
        t.hour(0);
        int x = 1;
        int clouds = 0;
        for (int c = 0; c < 48; c++) {
            x = (25173 * x + 13849) % 65536;
            if (c == 24) {
                clouds = 0;
            }
            if (c % 24 < 20 && x % 10 < c % 24 / 2) {
                clouds |= 1 << c % 24;
            }
        }
        t.steered(0, 0, 2, true);
        due(25, "drawn clouds", t.count(2), clouds);
        due(25, "X", t.count(8), x);
        t.ship(0, 3, 5);
        t.hour(0);
        law(t, "q99(c=h+5)");
        due(25, "drawn ahead of the hour: not seen", t.steered(0, 0, 1, true), 24 * 5 + 3);
        due(25, "drawn ahead of the hour", t.count(2), 32);
        law(t, "q1(1=2)");
        t.hour(0);
        due(25, "nothing drawn: seen", t.steered(0, 0, 1, true), 24 * 5 + 4);
        due(25, "nothing drawn", t.count(2), 0);
    }

    private static void time() {
        StarTales t = new StarTales();
        t.star(0, 0, 0, 1);
        t.walk(0, -1, 1);
        due(26, "0", t.hours(0), -1);
        due(26, "241", t.hours(241), -1);
        due(26, "23", t.hours(23), 0);
        due(26, "1", t.hours(1), 1);
        due(26, "240", t.hours(240), 11);
        due(26, "walks", t.starIs(0, 0), 13);
        due(26, "walks", t.starIs(0, 1), 11);

        StarTales none = new StarTales();
        put(none, 1);
        due(27, "no stars", none.found(), -1);
        due(27, "the tape stays", none.count(7), 20);
        due(27, "no tape", t.found(), -1);
        t.star(5, 23, 0, 1);
        t.walk(5, 3, -2);
        t.star(9, 7, 7, 1);
        put(t, 12, 11, 2, 0, 7, 7);
        due(27, "all are there", t.found(), 0);
        due(27, "empty then", t.count(7), 0);
        put(t, 12, 10, 2, 0, 6, 7);
        due(27, "two are not", t.found(), 1 | 1 << 9);
        put(t, 12, 11, 26, 0, 7, 7);
        due(27, "26 is not 2", t.found(), 1 << 5);
        for (int i = 0; i < 10; i++) {
            t.star(i, 0, 0, 1);
        }
        put(t, 0);
        due(27, "just so many", t.found(), 0);
        t.star(10, 0, 0, 1);
        put(t, 0);
        due(27, "not so many", t.found(), -1);
        due(27, "the tape stays", t.count(7), 20);
    }

    private static void meetings() {
        StarTales t = new StarTales();
        t.ship(0, 1, 0);
        t.ship(1, 22, 0);
        due(28, "round the edge", t.meeting(0, 1, 0), 2);
        due(28, "the lowest place", t.meeting(0, 1, 1), 0);
        due(28, "itself", t.meeting(1, 1, 0), 0);
        due(28, "itself", t.meeting(1, 1, 1), 22);
        due(28, "not told", t.meeting(0, 2, 0), -1);
        due(28, "no ship", t.meeting(6, 0, 0), -1);
        due(28, "no ship", t.meeting(0, -1, 0), -1);
        due(28, "what 2", t.meeting(0, 1, 2), -1);
        due(28, "what -1", t.meeting(0, 1, -1), -1);
        for (int y = 0; y < 11; y++) {
            t.land(0, y, true);
            t.land(12, y, true);
        }
        due(28, "round the land", t.meeting(0, 1, 0), 13);
        due(28, "round the land", t.meeting(0, 1, 1), 24 * 11);
        t.land(0, 11, true);
        t.land(12, 11, true);
        due(28, "never", t.meeting(0, 1, 0), -2);
        due(28, "never", t.meeting(0, 1, 1), -2);
    }

    private static void voyages() {
        StarTales t = new StarTales();
        t.ship(0, 8, 5);
        due(29, "no stars", t.fastest(0, 8, 5, 1, 0), -1);
        due(30, "no stars", t.byTwo(0, 8, 5, 2, 0), -1);
        t.star(2, 10, 5, 1);
        t.star(4, 10, 5, 1);
        due(29, "it is there", t.fastest(0, 8, 5, 1, 0), 0);
        due(29, "it is there: the lowest", t.fastest(0, 8, 5, 1, 1), 2);
        due(29, "three", t.fastest(0, 11, 5, 3, 0), 3);
        due(29, "by", t.fastest(0, 11, 5, 3, 1), 2);
        due(29, "within two", t.fastest(0, 11, 5, 2, 0), -2);
        due(29, "never", t.fastest(0, 8, 4, 48, 1), -2);
        due(29, "n 0", t.fastest(0, 11, 5, 0, 0), -1);
        due(29, "n 49", t.fastest(0, 11, 5, 49, 0), -1);
        due(29, "what 2", t.fastest(0, 11, 5, 3, 2), -1);
        due(29, "what -1", t.fastest(0, 11, 5, 3, -1), -1);
        due(29, "no place", t.fastest(0, 24, 5, 3, 0), -1);
        due(29, "no ship", t.fastest(1, 11, 5, 3, 0), -1);
        due(29, "nothing is changed", t.count(0), 0);
        due(29, "nothing is changed", t.count(20), 128);
        t.hour(23);
        t.star(2, 10, 5, 1);
        t.walk(2, 0, 3);
        t.star(4, 9, 5, 1);
        t.walk(4, 0, -3);
        // Star 4 (row 2 in the new night) brings it down to row 4, star 2 up to row 6.
        due(29, "over a night", t.fastest(0, 9, 6, 9, 1), 2);
        due(29, "over a night", t.fastest(0, 9, 4, 9, 0), 3);
        due(29, "no night begins", t.count(1), 0);
        due(29, "no star walks", t.starIs(2, 1), 5);

        t = new StarTales();
        t.ship(0, 8, 5);
        t.star(1, 12, 5, 1);
        t.star(3, 7, 8, 1);
        due(30, "both", t.byTwo(0, 9, 7, 12, 0), 3);
        due(30, "the first", t.byTwo(0, 9, 7, 12, 1), 1);
        due(30, "K", t.byTwo(0, 9, 7, 12, 2), 1);
        due(30, "the second", t.byTwo(0, 9, 7, 12, 3), 3);
        due(30, "within two", t.byTwo(0, 9, 7, 2, 0), -2);
        due(30, "one hour is too few", t.byTwo(0, 9, 5, 2, 0), -2);
        due(30, "the same", t.byTwo(0, 10, 5, 2, 3), 1);
        due(30, "n 1", t.byTwo(0, 9, 7, 1, 0), -1);
        due(30, "n 13", t.byTwo(0, 9, 7, 13, 0), -1);
        due(30, "what 4", t.byTwo(0, 9, 7, 12, 4), -1);
        due(30, "what -1", t.byTwo(0, 9, 7, 12, -1), -1);
        due(30, "no place", t.byTwo(0, 9, 12, 12, 0), -1);
        due(30, "no ship", t.byTwo(6, 9, 7, 12, 0), -1);
        due(30, "nothing is changed", t.count(0), 0);
        t = new StarTales();
        t.ship(0, 8, 5);
        t.sight(8, 8);
        t.star(0, 8, 8, 1);
        t.star(1, 12, 5, 1);
        t.star(2, 12, 5, 1);
        due(30, "either first", t.byTwo(0, 9, 6, 12, 0), 2);
        due(30, "the lowest first star", t.byTwo(0, 9, 6, 12, 1), 0);
        due(30, "the lowest second star", t.byTwo(0, 9, 6, 12, 3), 1);
        due(30, "the lowest K of the lowest first star", t.byTwo(0, 10, 6, 12, 2), 1);
        due(30, "it comes back to where it is", t.byTwo(0, 8, 5, 12, 0), -2);
        t.land(9, 5, true);
        t.land(8, 6, true);
        due(30, "it stays where it is", t.byTwo(0, 8, 5, 12, 0), 2);
    }

    private static void sameTale() {
        StarTales t = fiveStars();
        int here = 24 * 5 + 11;
        int there = 24 * 4 + 11;
        due(31, "no tale", t.both(here, there, 0), -1);
        due(31, "seen from both", t.both(here, there, 1), 0b10111);
        due(31, "drawn from both", t.both(here, there, 2), 3);
        tale(t, "AB;BC;CA");
        due(31, "ways", t.both(here, there, 0), 6);
        tale(t, "AB;BC;CA;CD");
        due(31, "none", t.both(here, there, 0), 0);
        due(31, "one place", t.both(here, here, 0), 2);
        due(31, "p -1", t.both(-1, here, 1), -1);
        due(31, "q 288", t.both(here, 288, 1), -1);
        due(31, "what 3", t.both(here, here, 3), -1);
        due(31, "what -1", t.both(here, here, -1), -1);
        law(t, "j(d<4&x=11);j(i=0&k=1)");
        due(31, "lines from one alone", t.both(here, here + 1, 2), 1);

        t = fiveStars();
        due(32, "no tale", t.hidden(11, 5, 0), -1);
        tale(t, "AB;BC");
        due(32, "how many", t.hidden(11, 5, 0), 1);
        due(32, "which", t.hidden(11, 5, 1), 1 << 11);
        tale(t, "AB");
        due(32, "two", t.hidden(11, 5, 0), 2);
        due(32, "two: which", t.hidden(11, 5, 1), 1 << 10 | 1 << 11);
        due(32, "what 2", t.hidden(11, 5, 2), -1);
        due(32, "what -1", t.hidden(11, 5, -1), -1);
        due(32, "no place", t.hidden(24, 5, 0), -1);
        due(32, "it can't be told", t.hidden(0, 5, 0), -3);
        tale(t, "AB;CD");
        due(32, "of like ones the least bits", t.hidden(11, 5, 1), 1 << 10);
        t.clouds(1 << 10);
        due(32, "hidden already", t.hidden(11, 5, 1), -3);
        StarTales all = new StarTales();
        for (int i = 0; i < 7; i++) {
            all.star(i, 8 + i, 5, 1);
        }
        law(all, "j(1=1)");
        tale(all, "AB");
        due(32, "by more than four", all.hidden(11, 5, 0), -2);
        tale(all, "AB;BC");
        due(32, "by more than four", all.hidden(11, 5, 1), -2);
        tale(all, "AB;BC;CD");
        due(32, "by four", all.hidden(11, 5, 0), 4);
        due(32, "by four", all.hidden(11, 5, 1), 15 << 8);
    }

    private static void logs() {
        StarTales t = fiveStars();
        put(t, 1, 0, 1, 0);
        due(33, "no tale", t.log(1, 0), -1);
        t.check(0);
        tale(t, "AB;BC;CA");
        put(t, 1, 9, 1, 0);
        due(33, "n 0", t.log(0, 0), -1);
        due(33, "n 13", t.log(13, 0), -1);
        due(33, "n 11", t.log(11, 0), -1);
        due(33, "what 2", t.log(1, 2), -1);
        due(33, "what -1", t.log(1, -1), -1);
        due(33, "the tape stays", t.count(7), 20);
        due(33, "the last way is not looked at", t.log(1, 0), 35);
        due(33, "empty then", t.count(7), 0);
        put(t, 0);
        due(33, "just so many bytes", t.log(10, 1), 0);
        put(t, 1, 9, 1, 0);
        due(33, "no such way", t.log(2, 0), -2);
        put(t, 2, 0);
        due(33, "no such note", t.log(1, 0), -2);
        put(t, 0, 0);
        due(33, "not told", t.log(1, 0), 288 - 35);
        put(t, 1, 0);
        due(33, "the first", t.log(1, 1), 24 * 4 + 8);
        t.land(8, 4, true);
        put(t, 1, 0);
        due(33, "not on land", t.log(1, 1), 24 * 4 + 9);
        put(t, 1, 2, 0, 0);
        // Gone left by one while the sky goes right by one: from x 8 and 9 it comes out of it (over sea alone).
        due(33, "left", t.log(2, 0), 4 + 4);
        put(t, 1, 3, 0, 0);
        due(33, "up, or out of it to the side", t.log(2, 0), 7 + 3);
        put(t, 0, 4, 0, 4, 0, 0);
        int some = t.log(3, 0);
        put(t, 0, 4, 0, 4, 0, 0);
        due(33, "over sea alone, not over the edge", t.log(3, 1), 48);
        due(33, "over sea alone, not over the edge", some < 288 - 48 ? 1 : 0, 1);
        put(t, 1, 1, 1, 1, 1, 1, 1, 1, 1, 1, 1, 1, 1, 1, 1, 1, 1, 1, 1, 1, 1, 1, 1, 1);
        due(33, "twelve hours", t.log(12, 0), 34);
        due(33, "nothing is changed", t.count(0), 0);
        t.hour(23);
        t.walk(0, 0, -3);
        put(t, 1, 0, 1, 0);
        due(33, "over a night it is never told", t.log(2, 1), -2);
    }

    private static void overAndHome() {
        StarTales t = new StarTales();
        t.star(0, 5, 6, 1);
        t.star(1, 20, 6, 1);
        t.star(2, 5, 7, 1);
        due(34, "over", t.over(4, 6), 1 << 23 | 1 << 8);
        t.hour(7);
        t.clouds(0xFFFFFF);
        due(34, "at any hour, clouded or not", t.over(4, 6), 1 << 23 | 1 << 8);
        due(34, "nothing", t.over(4, 5), 0);
        due(34, "no place", t.over(24, 6), -1);
        due(34, "no place", t.over(4, -1), -1);

        t = fiveStars();
        due(35, "no walks", t.home(11, 5), 1);
        t.walk(0, 3, 0);
        due(35, "round", t.home(11, 5), 8);
        t.walk(0, 0, 3);
        due(35, "never", t.home(11, 5), -2);
        due(35, "no place", t.home(11, 12), -1);
        t.walk(0, 3, 0);
        t.walk(1, 1, 0);
        due(35, "both", t.home(11, 5), 24);
        t.walk(0, 0, 0);
        t.walk(1, 0, 0);
        law(t, "j(u%7=0)");
        due(35, "the lines by the night", t.home(11, 5), 7);
        law(t, "v(u%60=0)");
        due(35, "60", t.home(11, 5), 60);
        law(t, "v(u%61=0)");
        due(35, "61", t.home(11, 5), -2);
        due(35, "nothing is changed", t.count(1), 0);
    }

    private static void keeping() {
        StarTales t = fiveStars();
        due(36, "most", t.seed(65535), true);
        due(36, "too much", t.seed(65536), false);
        due(36, "-1", t.seed(-1), false);
        due(36, "X", t.count(8), 65535);
        t.walk(0, 1, 1);
        t.ship(2, 3, 3);
        t.land(4, 4, true);
        t.clouds(7);
        t.hour(20);
        tale(t, "AB");
        put(t, 1);
        due(37, "stars", t.keep(), 5);
        t.check(0);
        law(t, "j(1=1);w1(1=1)");
        put(t, 1);
        t.gone(0);
        t.star(10, 1, 1, 1);
        t.ship(3, 5, 5);
        t.ship(2, 9, 9);
        t.land(4, 4, false);
        t.land(1, 1, true);
        t.clouds(0);
        t.sight(1, 1);
        t.hours(30);
        t.seed(5);
        for (int times = 0; times < 2; times++) {
            due(38, "undone", t.undo(), true);
            int[] want = {20, 0, 7, 5, 4, 2, 1, 20, 65535, 403, 1};
            for (int what = 0; what < want.length; what++) {
                due(38, "count " + what, t.count(what), want[what]);
            }
            due(38, "the ship", t.count(22), 75);
            due(38, "the star", t.starIs(0, 0), 10);
            due(38, "its walk", t.starIs(0, 4), 4);
            due(38, "gone again", t.starIs(10, 0), -1);
            t.hours(240);
            t.walk(0, 0, 0);
        }
        t.gone(0);
        due(37, "kept anew", t.keep(), 4);
        t.gone(1);
        t.undo();
        due(38, "as kept last", t.count(3), 4);
    }

    private static void checking() {
        StarTales t = new StarTales();
        t.ship(0, 5, 5);
        t.ship(2, 23, 11);
        due(39, "n 7", t.check(7), -2);
        due(39, "n -1", t.check(-1), -2);
        due(39, "no tape", t.check(1), -2);
        t.feed(125, 0, 287, 0, 0);
        due(39, "n 6", t.check(6), -2);
        due(39, "the tape stays", t.count(7), 20);
        due(39, "right", t.check(5), -1);
        due(39, "empty then", t.count(7), 0);
        t.feed(125, 1, 287, 0, 0);
        due(39, "the second", t.check(5), 1);
        t.feed(125, 1, 287, 0, 0);
        due(39, "the first alone", t.check(1), -1);
        t.feed(0x100007D, 0, 287, 0, 0);
        due(39, "all four bytes", t.check(1), 0);
        t.feed(1, 1, 1, 1, 1);
        due(39, "n 0", t.check(0), -1);
        due(39, "empty then", t.count(7), 0);

        due(40, "ships", t.count(4), 5);
        due(40, "a ship", t.count(20), 125);
        due(40, "not told", t.count(21), -1);
        due(40, "a ship", t.count(22), 287);
        due(40, "19", t.count(19), -1);
        due(40, "26", t.count(26), -1);
        due(40, "11", t.count(11), -1);
        due(40, "-1", t.count(-1), -1);
        due(40, "far out", t.count(Integer.MIN_VALUE), -1);
        due(40, "far out", t.count(Integer.MAX_VALUE), -1);
    }

    /** With a full tape only the bounds of n itself can refuse. */
    private static void fullTape() {
        StarTales t = fiveStars();
        tale(t, "AB");
        for (int k = 0; k < 11; k++) {
            t.feed(0, 0, 0, 0, 0);
        }
        due(11, "201", t.law(201), -1);
        due(12, "61", t.tale(61), -1);
        due(22, "13", t.known(13, 0), -1);
        due(23, "9", t.named(9, 0), -1);
        due(33, "13", t.log(13, 0), -1);
        due(39, "7", t.check(7), -2);
        due(22, "0", t.known(0, 0), -1);
        due(23, "1", t.named(1, 0), -1);
        due(33, "0", t.log(0, 0), -1);
        due(11, "0", t.law(0), -1);
        due(12, "0", t.tale(0), -1);
        due(39, "-1", t.check(-1), -2);
        due(10, "the tape stays", t.count(7), 220);
        due(33, "12", t.log(12, 1), 0);
        due(33, "all 220 bytes are gone", t.count(7), 0);
        due(31, "the first and the last place", t.both(0, 287, 1), 0);
        due(31, "the last and the first place", t.both(287, 0, 1), 0);
    }

    public static void main(String[] args) {
        newObject();
        stars();
        starIs();
        settings();
        landAndShips();
        tape();
        laws();
        reckoning();
        tales();
        seeing();
        lines();
        matching();
        whereAndWhen();
        patches();
        naming();
        selling();
        steering();
        time();
        meetings();
        voyages();
        sameTale();
        logs();
        overAndHome();
        keeping();
        checking();
        fullTape();
        tellAndEnd();
    }
}
