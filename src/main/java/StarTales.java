import java.util.Arrays;

/**
 * Stars named anew each night, the lines that a law draws between them, the tales that are told by
 * these, and the ships that steer by them. The document's numbered promises say what each call answers.
 */
public final class StarTales {
    public static final int NONE = -1;

    private static final int STARS = 24;
    private static final int COLUMNS = 24;
    private static final int ROWS = 12;
    private static final int PLACES = 288;
    private static final int SHIPS = 6;
    private static final int HOURS = 24;
    private static final int ALL_COLUMNS = 0xFFFFFF;
    private static final int MOST_WAYS = 10000;
    private static final int MOST_NIGHTS = 60;
    private static final int MOST_STEERED = 48;

    private final Sky sky = new Sky();
    private final Sky keptSky = new Sky();
    /** A sky that calls turn onward when they ask what will be, so that the true one stays as it is. */
    private final Sky ahead = new Sky();
    private final Sea sea = new Sea();
    private final Sea keptSea = new Sea();
    private boolean isKept = false;
    private final Tape tape = new Tape();
    private Law ruling = new Law();
    /** A text is read into the spare one first: a FAULT in it must leave the one before. */
    private Law spareLaw = new Law();
    private final LawReader lawReader = new LawReader(tape.bytes, spareLaw);
    private Tale telling = new Tale();
    private Tale spareTale = new Tale();
    private final View view = new View(sky, ruling);
    private final View otherView = new View(sky, ruling);
    private final Matcher matcher = new Matcher(telling, view.joined);
    private final Pilot pilot = new Pilot();
    private final Patches patches = new Patches(sky);
    private final Chooser chooser = new Chooser();
    private final int[] spots = new int[PLACES];

    public StarTales() {
    }

    public boolean star(int i, int column, int row, int bright) {
        if (!isWithin(i, 0, STARS - 1) || !isPlace(column, row) || !isWithin(bright, 1, 9)) {
            return false;
        }
        sky.told |= 1 << i;
        sky.column[i] = column;
        sky.row[i] = row;
        sky.bright[i] = bright;
        sky.walkColumns[i] = 0;
        sky.walkRows[i] = 0;
        return true;
    }

    public boolean walk(int i, int columns, int rows) {
        if (!sky.hasStar(i) || !isWithin(columns, -3, 3) || !isWithin(rows, -3, 3)) {
            return false;
        }
        sky.walkColumns[i] = columns;
        sky.walkRows[i] = rows;
        return true;
    }

    public boolean gone(int i) {
        if (!sky.hasStar(i)) {
            return false;
        }
        sky.told &= ~(1 << i);
        return true;
    }

    public boolean hour(int h) {
        if (!isWithin(h, 0, HOURS - 1)) {
            return false;
        }
        sky.hour = h;
        return true;
    }

    public boolean clouds(int bits) {
        if (!isWithin(bits, 0, ALL_COLUMNS)) {
            return false;
        }
        sky.clouds = bits;
        return true;
    }

    public boolean sight(int columns, int rows) {
        if (!isWithin(columns, 0, 11) || !isWithin(rows, 0, 11)) {
            return false;
        }
        sky.sightColumns = columns;
        sky.sightRows = rows;
        return true;
    }

    public boolean land(int x, int y, boolean is) {
        if (!isPlace(x, y) || sea.hasShipAt(placeOf(x, y))) {
            return false;
        }
        sea.setLand(x, y, is);
        return true;
    }

    public boolean ship(int s, int x, int y) {
        if (!isWithin(s, 0, SHIPS - 1) || !isPlace(x, y) || sea.isLand(placeOf(x, y))) {
            return false;
        }
        sea.shipsTold |= 1 << s;
        sea.shipPlace[s] = placeOf(x, y);
        return true;
    }

    public int feed(int a, int b, int c, int d, int e) {
        if (tape.size > Tape.MOST - 20) {
            return NONE;
        }
        tape.addNumber(a);
        tape.addNumber(b);
        tape.addNumber(c);
        tape.addNumber(d);
        tape.addNumber(e);
        return tape.size;
    }

    public int law(int n) {
        if (!isWithin(n, 1, LawReader.MOST_BYTES) || !tape.take(n)) {
            return NONE;
        }
        int answer = lawReader.read(n, spareLaw);
        if (answer > 0) {
            Law before = ruling;
            ruling = spareLaw;
            spareLaw = before;
        }
        return answer;
    }

    public int tale(int n) {
        if (!isWithin(n, 1, Tale.MOST_BYTES) || !tape.take(n)) {
            return NONE;
        }
        int answer = spareTale.read(tape.bytes, n);
        if (answer > 0) {
            Tale before = telling;
            telling = spareTale;
            spareTale = before;
        }
        return answer;
    }

    public int starIs(int i, int what) {
        if (!sky.hasStar(i)) {
            return NONE;
        }
        switch (what) {
            case 0:
                return sky.column[i];
            case 1:
                return sky.row[i];
            case 2:
                return sky.bright[i];
            case 3:
                return sky.standing(i);
            case 4:
                return sky.walkColumns[i] + 3;
            case 5:
                return sky.walkRows[i] + 3;
            default:
                return NONE;
        }
    }

    public int seen(int x, int y) {
        if (!isPlace(x, y)) {
            return NONE;
        }
        view.open(sky, ruling);
        view.look(x, y);
        return view.shown;
    }

    public int line(int x, int y, int a, int b) {
        if (!isPlace(x, y) || !sky.hasStar(a) || !sky.hasStar(b) || a == b) {
            return NONE;
        }
        lookAndDraw(view, x, y);
        return (view.joined[a] >> b & 1);
    }

    public int sky(int x, int y, int what) {
        if (!isPlace(x, y) || !isWithin(what, 0, 6)) {
            return NONE;
        }
        lookAndDraw(view, x, y);
        int lines = view.countLines();
        switch (what) {
            case 0:
                return lines;
            case 1:
                return view.countFigures();
            case 2:
                return view.largestFigure();
            case 3:
                return lines - Integer.bitCount(view.shown) + view.countFigures();
            case 4:
                return view.countHolding();
            case 5:
                return view.mostLegged();
            default:
                return view.legsOf(view.mostLegged());
        }
    }

    public int figure(int x, int y, int i) {
        if (!isPlace(x, y) || !sky.hasStar(i)) {
            return NONE;
        }
        lookAndDraw(view, x, y);
        return (view.shown >> i & 1) == 0 ? -2 : view.reach(i, NONE, NONE);
    }

    public int matched(int x, int y, int what) {
        if (!isPlace(x, y) || !isWithin(what, NONE, Tale.NAMES - 1)) {
            return -3;
        }
        if (telling.lines == 0) {
            return -2;
        }
        lookAndDraw(view, x, y);
        if (what == NONE) {
            return matcher.countWays(telling, view.shown, view.joined, MOST_WAYS);
        }
        if ((telling.names >> what & 1) == 0) {
            return -2;
        }
        return matcher.findFirst(telling, view.shown, view.joined) ? matcher.starOf[what] : -2;
    }

    public int where(int what) {
        if (!isWithin(what, 0, 1) || telling.lines == 0) {
            return NONE;
        }
        view.open(sky, ruling);
        int places = 0;
        for (int place = 0; place < PLACES; place++) {
            if (canBeTold(place)) {
                if (what == 1) {
                    return place;
                }
                places++;
            }
        }
        return what == 1 ? -2 : places;
    }

    public int when(int x, int y) {
        if (!isPlace(x, y) || telling.lines == 0) {
            return NONE;
        }
        ahead.copyFrom(sky);
        int hours = 0;
        for (int h = 0; h < HOURS; h++) {
            ahead.hour = h;
            view.open(ahead, ruling);
            if (canBeTold(placeOf(x, y))) {
                hours |= 1 << h;
            }
        }
        return hours;
    }

    public int alike(int what) {
        if (!isWithin(what, 0, 2)) {
            return NONE;
        }
        view.open(sky, ruling);
        patches.lookEverywhere(view);
        if (what == 0) {
            return patches.countAlike();
        }
        int first = patches.firstAlike();
        if (first == NONE) {
            return -2;
        }
        return what == 1 ? first : patches.alikeTo(first, first + 1);
    }

    public int known(int n, int what) {
        if (!isWithin(n, 1, Patches.MOST_PARTS) || !isWithin(what, 0, 3) || !tape.take(3 * n)) {
            return NONE;
        }
        view.open(sky, ruling);
        patches.takeParts(tape, n);
        int places = 0;
        for (int place = 0; place < PLACES; place++) {
            view.look(columnOf(place), rowOf(place));
            if (patches.isKnown(view, what >= 2)) {
                if (what % 2 == 1) {
                    return place;
                }
                places++;
            }
        }
        return what % 2 == 1 ? -2 : places;
    }

    public int named(int n, int what) {
        if (!isWithin(n, 2, Chooser.MOST_PLACES) || !isWithin(what, 0, 1) || !tape.take(2 * n)) {
            return NONE;
        }
        view.open(sky, ruling);
        for (int p = 0; p < n; p++) {
            int x = tape.byteAt(2 * p);
            int y = tape.byteAt(2 * p + 1);
            if (!isPlace(x, y)) {
                return -2;
            }
            view.look(x, y);
            chooser.shown[p] = view.shown;
        }
        // A PLACE told twice sees the same twice, so that it falls under "it can't be" by itself.
        int bits = chooser.fewestNamed(n);
        if (bits == NONE) {
            return -2;
        }
        return what == 0 ? Integer.bitCount(bits) : bits;
    }

    public int sold(int most, int what) {
        if (!isWithin(most, 0, Chooser.MOST_HEAVY) || !isWithin(what, 0, 2)) {
            return NONE;
        }
        chooser.weighStars(sky, ruling);
        int bits = chooser.bestSold(sky.told, most);
        switch (what) {
            case 0:
                return chooser.worthOf(bits);
            case 1:
                return bits;
            default:
                return chooser.weightOf(bits);
        }
    }

    public int steered(int s, int i, int n, boolean drawn) {
        if (!sea.hasShip(s) || !sky.hasStar(i) || !isWithin(n, 1, MOST_STEERED)) {
            return NONE;
        }
        int place = sea.shipPlace[s];
        for (int t = 0; t < n; t++) {
            if (drawn) {
                sky.drawClouds(ruling);
            }
            view.open(sky, ruling);
            place = pilot.step(view, sea, place, i);
            sky.passHour();
        }
        sea.shipPlace[s] = place;
        return place;
    }

    public int hours(int n) {
        if (!isWithin(n, 1, 240)) {
            return NONE;
        }
        for (int t = 0; t < n; t++) {
            sky.passHour();
        }
        return sky.night;
    }

    public int found() {
        if (sky.told == 0 || !tape.take(2 * Integer.bitCount(sky.told))) {
            return NONE;
        }
        int bits = 0;
        int at = 0;
        for (int i = 0; i < STARS; i++) {
            if (sky.hasStar(i)) {
                boolean isThere = tape.byteAt(at) == sky.columnNextNight(i)
                        && tape.byteAt(at + 1) == sky.rowNextNight(i);
                if (!isThere) {
                    bits |= 1 << i;
                }
                at += 2;
            }
        }
        return bits;
    }

    public int meeting(int a, int b, int what) {
        if (!sea.hasShip(a) || !sea.hasShip(b) || !isWithin(what, 0, 1)) {
            return NONE;
        }
        int place = pilot.meetingPlace(sea, sea.shipPlace[a], sea.shipPlace[b]);
        if (place == NONE) {
            return -2;
        }
        return what == 1 ? place : pilot.hoursTo(place);
    }

    public int fastest(int s, int x, int y, int n, int what) {
        if (!canAskVoyage(s, x, y) || !isWithin(n, 1, MOST_STEERED) || !isWithin(what, 0, 1)) {
            return NONE;
        }
        ahead.copyFrom(sky);
        view.open(ahead, ruling);
        if (!pilot.findFastest(view, sea, sea.shipPlace[s], placeOf(x, y), n)) {
            return -2;
        }
        return what == 0 ? pilot.hoursTaken : pilot.firstStar;
    }

    public int byTwo(int s, int x, int y, int n, int what) {
        if (!canAskVoyage(s, x, y) || !isWithin(n, 2, Pilot.MOST_BY_TWO) || !isWithin(what, 0, 3)) {
            return NONE;
        }
        ahead.copyFrom(sky);
        view.open(ahead, ruling);
        if (!pilot.findByTwo(view, sea, sky, sea.shipPlace[s], placeOf(x, y), n)) {
            return -2;
        }
        switch (what) {
            case 0:
                return pilot.hoursTaken;
            case 1:
                return pilot.firstStar;
            case 2:
                return pilot.turn;
            default:
                return pilot.secondStar;
        }
    }

    public int both(int p, int q, int what) {
        boolean isAsked = isWithin(p, 0, PLACES - 1) && isWithin(q, 0, PLACES - 1) && isWithin(what, 0, 2);
        if (!isAsked || (what == 0 && telling.lines == 0)) {
            return NONE;
        }
        lookAndDraw(view, columnOf(p), rowOf(p));
        lookAndDraw(otherView, columnOf(q), rowOf(q));
        view.keepShared(otherView);
        switch (what) {
            case 0:
                return matcher.countWays(telling, view.shown, view.joined, MOST_WAYS);
            case 1:
                return view.shown;
            default:
                return view.countLines();
        }
    }

    public int hidden(int x, int y, int what) {
        if (!isPlace(x, y) || !isWithin(what, 0, 1) || telling.lines == 0) {
            return NONE;
        }
        lookAndDraw(view, x, y);
        if (matcher.countWays(telling, view.shown, view.joined, 1) == 0) {
            return -3;
        }
        int columns = matcher.fewestColumns(telling, view);
        if (columns == NONE) {
            return -2;
        }
        return what == 0 ? Integer.bitCount(columns) : columns;
    }

    public int log(int n, int what) {
        boolean isAsked = isWithin(n, 1, 12) && isWithin(what, 0, 1) && telling.lines != 0;
        if (!isAsked || !tape.take(2 * n)) {
            return NONE;
        }
        if (!isLogBytes(n)) {
            return -2;
        }
        for (int place = 0; place < PLACES; place++) {
            spots[place] = sea.isLand(place) ? NONE : place;
        }
        ahead.copyFrom(sky);
        for (int t = 0; t < n; t++) {
            view.open(ahead, ruling);
            boolean isTold = tape.byteAt(2 * t) == 1;
            for (int first = 0; first < PLACES; first++) {
                if (spots[first] != NONE && canBeTold(spots[first]) != isTold) {
                    spots[first] = NONE;
                }
            }
            if (t < n - 1) {
                moveSpots(tape.byteAt(2 * t + 1));
            }
            ahead.passHour();
        }
        return what == 0 ? countSpots() : firstSpot();
    }

    public int over(int x, int y) {
        if (!isPlace(x, y)) {
            return NONE;
        }
        int hours = 0;
        for (int i = 0; i < STARS; i++) {
            if (sky.hasStar(i) && sky.row[i] == y) {
                hours |= 1 << Math.floorMod(x - sky.column[i], HOURS);
            }
        }
        return hours;
    }

    public int home(int x, int y) {
        if (!isPlace(x, y)) {
            return NONE;
        }
        lookAndDraw(view, x, y);
        ahead.copyFrom(sky);
        for (int nights = 1; nights <= MOST_NIGHTS; nights++) {
            ahead.beginNight();
            otherView.open(ahead, ruling);
            otherView.look(x, y);
            if (otherView.shown == view.shown) {
                otherView.draw();
                if (otherView.hasLinesOf(view)) {
                    return nights;
                }
            }
        }
        return -2;
    }

    public boolean seed(int x) {
        if (!isWithin(x, 0, 65535)) {
            return false;
        }
        sky.chance = x;
        return true;
    }

    public int keep() {
        keptSky.copyFrom(sky);
        keptSea.copyFrom(sea);
        isKept = true;
        return Integer.bitCount(sky.told);
    }

    public boolean undo() {
        if (!isKept) {
            return false;
        }
        sky.copyFrom(keptSky);
        sea.copyFrom(keptSea);
        return true;
    }

    public int check(int n) {
        if (!isWithin(n, 0, SHIPS) || !tape.take(4 * n)) {
            return -2;
        }
        for (int s = 0; s < n; s++) {
            int due = sea.hasShip(s) ? sea.shipPlace[s] : 0;
            if (tape.numberAt(s) != due) {
                return s;
            }
        }
        return NONE;
    }

    public int count(int what) {
        switch (what) {
            case 0:
                return sky.hour;
            case 1:
                return sky.night;
            case 2:
                return sky.clouds;
            case 3:
                return Integer.bitCount(sky.told);
            case 4:
                return sea.shipsTold;
            case 5:
                return ruling.clauses;
            case 6:
                return telling.lines;
            case 7:
                return tape.size;
            case 8:
                return sky.chance;
            case 9:
                return 100 * sky.sightColumns + sky.sightRows;
            case 10:
                return sea.countLand();
            default:
                return isWithin(what, 20, 19 + SHIPS) && sea.hasShip(what - 20) ? sea.shipPlace[what - 20] : NONE;
        }
    }

    private static boolean isWithin(int number, int least, int most) {
        return number >= least && number <= most;
    }

    private static boolean isPlace(int x, int y) {
        return x >= 0 && x < COLUMNS && y >= 0 && y < ROWS;
    }

    private static int placeOf(int x, int y) {
        return COLUMNS * y + x;
    }

    private static int columnOf(int place) {
        return place % COLUMNS;
    }

    private static int rowOf(int place) {
        return place / COLUMNS;
    }

    /** The lesser of both ways round between two columns. */
    private static int columnsBetween(int a, int b) {
        int apart = Math.abs(a - b);
        return Math.min(apart, COLUMNS - apart);
    }

    /** The number of the lowest bit; there must be one. */
    private static int lowestOf(int bits) {
        return Integer.bitCount((bits & -bits) - 1);
    }

    private static int faultAt(int number, int place) {
        return -1000 * number - place;
    }

    private void lookAndDraw(View eye, int x, int y) {
        eye.open(sky, ruling);
        eye.look(x, y);
        eye.draw();
    }

    /** Whether THE TALE can be told at a PLACE, under the sky that the view was opened with. */
    private boolean canBeTold(int place) {
        view.look(columnOf(place), rowOf(place));
        if (Integer.bitCount(view.shown) < Integer.bitCount(telling.names)) {
            return false;
        }
        view.draw();
        return matcher.countWays(telling, view.shown, view.joined, 1) > 0;
    }

    private boolean canAskVoyage(int s, int x, int y) {
        return sea.hasShip(s) && isPlace(x, y) && sky.told != 0;
    }

    private boolean isLogBytes(int n) {
        for (int t = 0; t < n; t++) {
            // How it went behind the last note is not looked at.
            if (tape.byteAt(2 * t) > 1 || (t < n - 1 && tape.byteAt(2 * t + 1) > 4)) {
                return false;
            }
        }
        return true;
    }

    private void moveSpots(int how) {
        for (int first = 0; first < PLACES; first++) {
            if (spots[first] != NONE) {
                spots[first] = sea.goFrom(spots[first], how);
            }
        }
    }

    private int countSpots() {
        int places = 0;
        for (int first = 0; first < PLACES; first++) {
            if (spots[first] != NONE) {
                places++;
            }
        }
        return places;
    }

    private int firstSpot() {
        for (int first = 0; first < PLACES; first++) {
            if (spots[first] != NONE) {
                return first;
            }
        }
        return -2;
    }

    /** The bytes that are fed and not yet read. */
    private static final class Tape {
        static final int MOST = 220;

        final int[] bytes = new int[MOST];
        int size = 0;

        void addNumber(int number) {
            for (int shift = 24; shift >= 0 && size < MOST; shift -= 8) {
                bytes[size] = number >>> shift & 255;
                size++;
            }
        }

        /** Empties the tape if it has so many bytes; what was on it can still be read till the next feed. */
        boolean take(int wanted) {
            if (wanted > size) {
                return false;
            }
            size = 0;
            return true;
        }

        int byteAt(int at) {
            return at >= 0 && at < MOST ? bytes[at] : 0;
        }

        int numberAt(int k) {
            return byteAt(4 * k) << 24 | byteAt(4 * k + 1) << 16 | byteAt(4 * k + 2) << 8 | byteAt(4 * k + 3);
        }
    }

    /** The stars, the time, and what stands in the way of seeing. */
    private static final class Sky {
        int told = 0;
        final int[] column = new int[STARS];
        final int[] row = new int[STARS];
        final int[] bright = new int[STARS];
        final int[] walkColumns = new int[STARS];
        final int[] walkRows = new int[STARS];
        int hour = 0;
        int night = 0;
        int clouds = 0;
        int sightColumns = 4;
        int sightRows = 3;
        /** The document's X. */
        int chance = 1;

        boolean hasStar(int i) {
            return i >= 0 && i < STARS && (told >> i & 1) != 0;
        }

        int standing(int i) {
            return (column[i] + hour) % COLUMNS;
        }

        int columnNextNight(int i) {
            return Math.floorMod(column[i] + walkColumns[i], COLUMNS);
        }

        int rowNextNight(int i) {
            return Math.max(0, Math.min(ROWS - 1, row[i] + walkRows[i]));
        }

        void beginNight() {
            night++;
            for (int i = 0; i < STARS; i++) {
                column[i] = columnNextNight(i);
                row[i] = rowNextNight(i);
            }
        }

        void passHour() {
            hour++;
            if (hour == HOURS) {
                hour = 0;
                beginNight();
            }
        }

        void drawClouds(Law law) {
            law.forgetLetters();
            law.setTime(this);
            int drawn = 0;
            for (int c = 0; c < COLUMNS; c++) {
                chance = (25173 * chance + 13849) % 65536;
                law.letters[Law.C] = c;
                if (chance % 10 < law.amount('q', 10)) {
                    drawn |= 1 << c;
                }
            }
            clouds = drawn;
        }

        void copyFrom(Sky from) {
            told = from.told;
            System.arraycopy(from.column, 0, column, 0, STARS);
            System.arraycopy(from.row, 0, row, 0, STARS);
            System.arraycopy(from.bright, 0, bright, 0, STARS);
            System.arraycopy(from.walkColumns, 0, walkColumns, 0, STARS);
            System.arraycopy(from.walkRows, 0, walkRows, 0, STARS);
            hour = from.hour;
            night = from.night;
            clouds = from.clouds;
            sightColumns = from.sightColumns;
            sightRows = from.sightRows;
            chance = from.chance;
        }
    }

    /** Land and ships. */
    private static final class Sea {
        /** Ways to go from a PLACE: to stay, right, left, y + 1, y - 1. */
        static final int WAYS = 5;

        /** The LAND of each row, a bit for each column. */
        final int[] landRow = new int[ROWS];
        int shipsTold = 0;
        final int[] shipPlace = new int[SHIPS];

        boolean isLand(int place) {
            return (landRow[rowOf(place)] >> columnOf(place) & 1) != 0;
        }

        void setLand(int x, int y, boolean is) {
            if (is) {
                landRow[y] |= 1 << x;
            } else {
                landRow[y] &= ~(1 << x);
            }
        }

        int countLand() {
            int land = 0;
            for (int y = 0; y < ROWS; y++) {
                land += Integer.bitCount(landRow[y]);
            }
            return land;
        }

        boolean hasShip(int s) {
            return s >= 0 && s < SHIPS && (shipsTold >> s & 1) != 0;
        }

        boolean hasShipAt(int place) {
            for (int s = 0; s < SHIPS; s++) {
                if (hasShip(s) && shipPlace[s] == place) {
                    return true;
                }
            }
            return false;
        }

        /** The PLACE that one of the WAYS leads to over sea; NONE if it can't be gone. */
        int goFrom(int place, int how) {
            int x = columnOf(place);
            int y = rowOf(place);
            switch (how) {
                case 1:
                    x = (x + 1) % COLUMNS;
                    break;
                case 2:
                    x = (x + COLUMNS - 1) % COLUMNS;
                    break;
                case 3:
                    y++;
                    break;
                case 4:
                    y--;
                    break;
                default:
                    break;
            }
            return !isPlace(x, y) || isLand(placeOf(x, y)) ? NONE : placeOf(x, y);
        }

        void copyFrom(Sea from) {
            System.arraycopy(from.landRow, 0, landRow, 0, ROWS);
            shipsTold = from.shipsTold;
            System.arraycopy(from.shipPlace, 0, shipPlace, 0, SHIPS);
        }
    }

    /** THE LAW as steps for a machine with a stack: asked thousands of times a call, it is read but once. */
    private static final class Law {
        static final int MOST_CLAUSES = 14;
        /** Every step has a byte of the text of its own, so that there are never more than 200. */
        private static final int MOST_STEPS = 200;
        private static final int STACK = 40;

        static final String LETTERS = "huimrcknsexyd";
        static final int H = 0;
        static final int U = 1;
        static final int I = 2;
        static final int M = 3;
        static final int R = 4;
        static final int C = 5;
        static final int K = 6;
        static final int N = 7;
        static final int S = 8;
        static final int E = 9;
        static final int X = 10;
        static final int Y = 11;
        static final int D = 12;

        static final int NUMBER = 0;
        static final int LETTER = 1;
        static final int NOT = 2;
        /** The jumps leave the truth that they jumped by for what stands where they land. */
        static final int JUMP_IF_SO = 3;
        static final int JUMP_IF_NOT = 4;
        static final int PLUS = 5;
        static final int MINUS = 6;
        static final int TIMES = 7;
        static final int DIVIDED = 8;
        static final int REST = 9;
        static final int BELOW = 10;
        static final int ABOVE = 11;
        static final int EQUAL = 12;

        private final int[] kinds = new int[MOST_STEPS];
        private final int[] values = new int[MOST_STEPS];
        int steps = 0;
        private final int[] clauseKind = new int[MOST_CLAUSES];
        private final int[] amountFrom = new int[MOST_CLAUSES];
        private final int[] conditionFrom = new int[MOST_CLAUSES];
        private final int[] conditionEnd = new int[MOST_CLAUSES];
        int clauses = 0;
        boolean tellsSeen = false;
        boolean tellsLines = false;
        boolean seenByPlace = false;
        boolean linesByPlace = false;
        final int[] letters = new int[LETTERS.length()];
        private final int[] stack = new int[STACK];
        private int answer = 0;

        void clear() {
            steps = 0;
            clauses = 0;
            tellsSeen = false;
            tellsLines = false;
            seenByPlace = false;
            linesByPlace = false;
        }

        int addStep(int kind, int value) {
            if (steps < MOST_STEPS) {
                kinds[steps] = kind;
                values[steps] = value;
                steps++;
            }
            return steps - 1;
        }

        /** Lets a jump land ahead of the step that comes next. */
        void landJump(int jump) {
            if (jump >= 0 && jump < MOST_STEPS) {
                values[jump] = steps;
            }
        }

        void addClause(int kind, int from, int middle) {
            if (clauses >= MOST_CLAUSES) {
                return;
            }
            clauseKind[clauses] = kind;
            amountFrom[clauses] = from;
            conditionFrom[clauses] = middle;
            conditionEnd[clauses] = steps;
            clauses++;
            if (kind == 'v') {
                tellsSeen = true;
                seenByPlace = seenByPlace || hasLetter(middle, X) || hasLetter(middle, Y) || hasLetter(middle, D);
            } else if (kind == 'j') {
                tellsLines = true;
                linesByPlace = linesByPlace || hasLetter(middle, X) || hasLetter(middle, Y);
            }
        }

        private boolean hasLetter(int from, int letter) {
            for (int step = from; step < steps; step++) {
                if (kinds[step] == LETTER && values[step] == letter) {
                    return true;
                }
            }
            return false;
        }

        void forgetLetters() {
            Arrays.fill(letters, 0);
        }

        void setTime(Sky sky) {
            letters[H] = sky.hour;
            letters[U] = sky.night;
        }

        void setStar(Sky sky, int i) {
            letters[I] = i;
            letters[M] = sky.bright[i];
            letters[R] = sky.row[i];
            letters[C] = sky.standing(i);
        }

        void setOther(Sky sky, int k) {
            letters[K] = k;
            letters[N] = sky.bright[k];
            letters[S] = sky.row[k];
            letters[E] = sky.standing(k);
        }

        /** Whether the C of any CLAUSE of a kind holds, by the letters as they are set. */
        boolean anyHolds(int kind) {
            for (int c = 0; c < clauses; c++) {
                if (clauseKind[c] == kind && run(conditionFrom[c], conditionEnd[c]) && answer != 0) {
                    return true;
                }
            }
            return false;
        }

        /** The E of the first CLAUSE of a kind whose C holds, by the letters as they are set. */
        int amount(int kind, int most) {
            for (int c = 0; c < clauses; c++) {
                if (clauseKind[c] == kind && run(conditionFrom[c], conditionEnd[c]) && answer != 0) {
                    return run(amountFrom[c], conditionFrom[c]) ? Math.max(0, Math.min(most, answer)) : 0;
                }
            }
            return 0;
        }

        /** Leaves what the steps come to in answer; false: they are REFUSED. */
        private boolean run(int from, int end) {
            int top = -1;
            for (int step = from; step < end; step++) {
                int kind = kinds[step];
                if (kind <= LETTER) {
                    top++;
                    if (top >= STACK) {
                        return false;
                    }
                    stack[top] = kind == NUMBER ? values[step] : letters[values[step]];
                    continue;
                }
                if (top < (kind < PLUS ? 0 : 1)) {
                    return false;
                }
                int b = stack[top];
                if (kind == NOT) {
                    stack[top] = b == 0 ? 1 : 0;
                    continue;
                }
                if (kind < PLUS && (b != 0) == (kind == JUMP_IF_SO)) {
                    // Jumps lead onward alone: the step ahead of the landing is never an earlier one.
                    step = Math.max(step, values[step] - 1);
                    continue;
                }
                top--;
                if (kind < PLUS) {
                    continue;
                }
                if (b == 0 && (kind == DIVIDED || kind == REST)) {
                    return false;
                }
                int a = stack[top];
                switch (kind) {
                    case PLUS: stack[top] = a + b; break;
                    case MINUS: stack[top] = a - b; break;
                    case TIMES: stack[top] = a * b; break;
                    case DIVIDED: stack[top] = a / b; break;
                    case REST: stack[top] = a % b; break;
                    case BELOW: stack[top] = a < b ? 1 : 0; break;
                    case ABOVE: stack[top] = a > b ? 1 : 0; break;
                    default: stack[top] = a == b ? 1 : 0; break;
                }
            }
            answer = top < 0 ? 0 : stack[top];
            return true;
        }
    }

    /** Reads the text of a LAW from the left; the first FAULT ends it. */
    private static final class LawReader {
        static final int MOST_BYTES = 200;
        private static final int MOST_OPEN = 6;
        private static final int MOST_DIGITS = 5;

        private final int[] text;
        private int length = 0;
        private int at = 0;
        private int fault = 0;
        private Law law;

        LawReader(int[] text, Law law) {
            this.text = text;
            this.law = law;
        }

        /** How many CLAUSES, or the FAULT. */
        int read(int n, Law into) {
            length = Math.min(n, text.length);
            at = 0;
            fault = 0;
            law = into;
            law.clear();
            readClause();
            for (int more = 0; more < Law.MOST_CLAUSES && fault == 0 && at < length; more++) {
                skip(';');
                readClause();
            }
            return fault != 0 ? fault : law.clauses;
        }

        /** The byte that comes next; NONE at the end. */
        private int peek() {
            return at >= 0 && at < length ? text[at] : NONE;
        }

        private void fail(int number) {
            if (fault == 0) {
                fault = faultAt(number, at);
            }
        }

        private void skip(int sign) {
            if (fault != 0) {
                return;
            }
            if (peek() == sign) {
                at++;
            } else {
                fail(1);
            }
        }

        private void readClause() {
            if (fault != 0) {
                return;
            }
            int kind = peek();
            boolean hasAmount = kind == 'w' || kind == 'g' || kind == 'q';
            if (!hasAmount && kind != 'v' && kind != 'j') {
                fail(1);
                return;
            }
            if (law.clauses == Law.MOST_CLAUSES) {
                fail(4);
                return;
            }
            at++;
            int from = law.steps;
            if (hasAmount) {
                readSum(0);
            }
            int middle = law.steps;
            skip('(');
            readCondition(1);
            skip(')');
            law.addClause(kind, from, middle);
        }

        /** A C. How many of ( [ ! are open around it is carried along. */
        private void readCondition(int open) {
            readPart(open);
            while (fault == 0 && at < length && text[at] == '|') {
                at++;
                int jump = law.addStep(Law.JUMP_IF_SO, 0);
                readPart(open);
                law.landJump(jump);
            }
        }

        private void readPart(int open) {
            readPiece(open);
            while (fault == 0 && at < length && text[at] == '&') {
                at++;
                int jump = law.addStep(Law.JUMP_IF_NOT, 0);
                readPiece(open);
                law.landJump(jump);
            }
        }

        private void readPiece(int open) {
            int sign = peek();
            if (fault != 0) {
                return;
            }
            if (sign != '!' && sign != '(') {
                readComparison(open);
            } else if (open >= MOST_OPEN) {
                fail(5);
            } else if (sign == '!') {
                at++;
                readPiece(open + 1);
                law.addStep(Law.NOT, 0);
            } else {
                at++;
                readCondition(open + 1);
                skip(')');
            }
        }

        private void readComparison(int open) {
            readSum(open);
            if (fault != 0) {
                return;
            }
            int sign = peek();
            if (sign != '<' && sign != '>' && sign != '=') {
                fail(1);
                return;
            }
            at++;
            readSum(open);
            law.addStep(sign == '<' ? Law.BELOW : sign == '>' ? Law.ABOVE : Law.EQUAL, 0);
        }

        /** An E. */
        private void readSum(int open) {
            readTerm(open);
            while (fault == 0 && at < length && (text[at] == '+' || text[at] == '-')) {
                int kind = text[at] == '+' ? Law.PLUS : Law.MINUS;
                at++;
                readTerm(open);
                law.addStep(kind, 0);
            }
        }

        private void readTerm(int open) {
            readFactor(open);
            while (fault == 0 && at < length && (text[at] == '*' || text[at] == '/' || text[at] == '%')) {
                int kind = text[at] == '*' ? Law.TIMES : text[at] == '/' ? Law.DIVIDED : Law.REST;
                at++;
                readFactor(open);
                law.addStep(kind, 0);
            }
        }

        private void readFactor(int open) {
            if (fault != 0) {
                return;
            }
            int sign = peek();
            if (sign == '[') {
                if (open >= MOST_OPEN) {
                    fail(5);
                    return;
                }
                at++;
                readSum(open + 1);
                skip(']');
            } else if (isDigit(sign)) {
                readNumber();
            } else {
                int letter = sign == NONE ? NONE : Law.LETTERS.indexOf((char) sign);
                if (letter == NONE) {
                    fail(1);
                    return;
                }
                at++;
                law.addStep(Law.LETTER, letter);
            }
        }

        private void readNumber() {
            int number = 0;
            for (int digits = 0; digits < MOST_DIGITS && isDigit(peek()); digits++) {
                number = 10 * number + peek() - '0';
                at++;
            }
            if (isDigit(peek())) {
                fail(2);
            }
            law.addStep(Law.NUMBER, number);
        }

        private static boolean isDigit(int sign) {
            return sign >= '0' && sign <= '9';
        }
    }

    /** THE TALE: which of its names have a LINE with which. */
    private static final class Tale {
        static final int MOST_BYTES = 60;
        static final int NAMES = 8;
        private static final int MOST_LINES = 12;

        int lines = 0;
        int names = 0;
        final int[] near = new int[NAMES];

        /** How many LINES, or the FAULT. */
        int read(int[] text, int length) {
            lines = 0;
            names = 0;
            Arrays.fill(near, 0);
            int at = 0;
            while (at < length && lines <= MOST_LINES) {
                int first = nameAt(text, length, at);
                if (first == NONE) {
                    return faultAt(1, at);
                }
                if (lines == MOST_LINES) {
                    return faultAt(4, at);
                }
                int second = nameAt(text, length, at + 1);
                if (second == NONE) {
                    return faultAt(1, at + 1);
                }
                if (second == first) {
                    return faultAt(3, at + 1);
                }
                if ((near[first] >> second & 1) != 0) {
                    return faultAt(6, at);
                }
                addLine(first, second);
                at += 2;
                if (at == length) {
                    return lines;
                }
                if (text[at] != ';') {
                    return faultAt(1, at);
                }
                at++;
            }
            // A ; was the last byte (or there was none): a LINE should have followed.
            return faultAt(1, at);
        }

        private static int nameAt(int[] text, int length, int at) {
            boolean isName = at >= 0 && at < length && at < text.length && text[at] >= 'A' && text[at] <= 'H';
            return isName ? text[at] - 'A' : NONE;
        }

        private void addLine(int first, int second) {
            near[first] |= 1 << second;
            near[second] |= 1 << first;
            names |= 1 << first | 1 << second;
            lines++;
        }
    }

    /** What is SEEN from a PLACE, and the LINES from there. */
    private static final class View {
        Sky sky;
        Law law;
        int x = 0;
        int y = 0;
        int shown = 0;
        /** The STARS (bits) with which each STAR has a LINE. */
        final int[] joined = new int[STARS];
        /** What THE LAW answered already, while it doesn't ask for the PLACE. */
        private int starsAsked = 0;
        private int starsHold = 0;
        private final int[] pairsAsked = new int[STARS];
        private final int[] pairsHold = new int[STARS];

        View(Sky sky, Law law) {
            this.sky = sky;
            this.law = law;
        }

        /** To be called whenever the sky, the time or THE LAW may be another one than before. */
        void open(Sky sky, Law law) {
            this.sky = sky;
            this.law = law;
            starsAsked = 0;
            Arrays.fill(pairsAsked, 0);
        }

        void goTo(int x, int y) {
            this.x = x;
            this.y = y;
            law.forgetLetters();
            law.setTime(sky);
            law.letters[Law.X] = x;
            law.letters[Law.Y] = y;
        }

        void look(int x, int y) {
            goTo(x, y);
            shown = 0;
            for (int i = 0; i < STARS; i++) {
                if (sees(i)) {
                    shown |= 1 << i;
                }
            }
        }

        /** Whether a STAR is SEEN from the PLACE that was gone to just before. */
        boolean sees(int i) {
            if (!sky.hasStar(i)) {
                return false;
            }
            int column = sky.standing(i);
            int columns = columnsBetween(column, x);
            int rows = Math.abs(sky.row[i] - y);
            boolean isNear = columns <= sky.sightColumns && rows <= sky.sightRows;
            if (!isNear || (sky.clouds >> column & 1) != 0) {
                return false;
            }
            if (!law.tellsSeen) {
                return true;
            }
            if ((starsAsked >> i & 1) == 0) {
                law.setStar(sky, i);
                law.letters[Law.D] = columns + rows;
                if (law.anyHolds('v')) {
                    starsHold |= 1 << i;
                } else {
                    starsHold &= ~(1 << i);
                }
                if (!law.seenByPlace) {
                    starsAsked |= 1 << i;
                }
            }
            return (starsHold >> i & 1) != 0;
        }

        /** Draws the LINES between what was SEEN by the last look. */
        void draw() {
            Arrays.fill(joined, 0);
            if (!law.tellsLines) {
                return;
            }
            goTo(x, y);
            for (int a = 0; a < STARS; a++) {
                for (int b = a + 1; b < STARS && (shown >> a & 1) != 0; b++) {
                    if ((shown >> b & 1) != 0 && isDrawn(a, b)) {
                        joined[a] |= 1 << b;
                        joined[b] |= 1 << a;
                    }
                }
            }
        }

        private boolean isDrawn(int a, int b) {
            if ((pairsAsked[a] >> b & 1) == 0) {
                law.setStar(sky, a);
                law.setOther(sky, b);
                law.letters[Law.D] = columnsBetween(sky.column[a], sky.column[b])
                        + Math.abs(sky.row[a] - sky.row[b]);
                if (law.anyHolds('j')) {
                    pairsHold[a] |= 1 << b;
                } else {
                    pairsHold[a] &= ~(1 << b);
                }
                if (!law.linesByPlace) {
                    pairsAsked[a] |= 1 << b;
                }
            }
            return (pairsHold[a] >> b & 1) != 0;
        }

        /** Leaves only what another view has, too. */
        void keepShared(View other) {
            shown &= other.shown;
            for (int i = 0; i < STARS; i++) {
                joined[i] &= other.joined[i];
            }
        }

        boolean hasLinesOf(View other) {
            for (int i = 0; i < STARS; i++) {
                if (joined[i] != other.joined[i]) {
                    return false;
                }
            }
            return true;
        }

        int countLines() {
            int ends = 0;
            for (int i = 0; i < STARS; i++) {
                ends += Integer.bitCount(joined[i]);
            }
            return ends / 2;
        }

        /** The STARS that hang together with one, as if there were no LINE between cutA and cutB. */
        int reach(int from, int cutA, int cutB) {
            int reached = 1 << from;
            int todo = reached;
            for (int rounds = 0; rounds < STARS && todo != 0; rounds++) {
                int i = lowestOf(todo);
                int next = joined[i];
                if (i == cutA) {
                    next &= ~(1 << cutB);
                } else if (i == cutB) {
                    next &= ~(1 << cutA);
                }
                todo = (todo | next & ~reached) & ~(1 << i);
                reached |= next;
            }
            return reached;
        }

        int countFigures() {
            int figures = 0;
            int left = shown;
            for (int i = 0; i < STARS; i++) {
                if ((left >> i & 1) != 0) {
                    figures++;
                    left &= ~reach(i, NONE, NONE);
                }
            }
            return figures;
        }

        int largestFigure() {
            int largest = 0;
            int left = shown;
            for (int i = 0; i < STARS; i++) {
                if ((left >> i & 1) != 0) {
                    int bits = reach(i, NONE, NONE);
                    largest = Math.max(largest, Integer.bitCount(bits));
                    left &= ~bits;
                }
            }
            return largest;
        }

        /** How many LINES HOLD. */
        int countHolding() {
            int holding = 0;
            for (int a = 0; a < STARS; a++) {
                for (int b = a + 1; b < STARS; b++) {
                    if ((joined[a] >> b & 1) != 0 && (reach(a, a, b) >> b & 1) == 0) {
                        holding++;
                    }
                }
            }
            return holding;
        }

        int mostLegged() {
            int best = NONE;
            for (int i = 0; i < STARS; i++) {
                if ((shown >> i & 1) != 0 && (best == NONE || legsOf(i) > legsOf(best))) {
                    best = i;
                }
            }
            return best;
        }

        int legsOf(int i) {
            return i == NONE ? 0 : Integer.bitCount(joined[i]);
        }
    }

    /** Matches a TALE with what is SEEN. */
    private static final class Matcher {
        private static final int MOST_HIDING = 4;
        /** So many dead ends are passed before it pays to look further ahead. */
        private static final int FEW_DEAD_ENDS = 40;

        /** The STARS (bits) that each name may still be, a row of names for each name that is settled. */
        private final int[] may = new int[(Tale.NAMES + 1) * Tale.NAMES];
        /** The STARS (bits) that have LINES with the same others as a STAR has: any of them does as well. */
        private final int[] twins = new int[STARS];
        /** The STARS of the way that was found last (of one way alone, or of the first). */
        final int[] starOf = new int[Tale.NAMES];
        private Tale tale;
        private int[] joined;
        private int fewest = NONE;
        private int deadEnds = 0;

        Matcher(Tale tale, int[] joined) {
            this.tale = tale;
            this.joined = joined;
        }

        /** How many ways there are, of which no more than so many are counted. */
        int countWays(Tale told, int shown, int[] lines, int most) {
            begin(told, shown, lines);
            return search(0, tale.names, most);
        }

        /** Leaves the first way by names in starOf; false: there is none. */
        boolean findFirst(Tale told, int shown, int[] lines) {
            begin(told, shown, lines);
            for (int name = 0; name < Tale.NAMES; name++) {
                if ((tale.names >> name & 1) != 0 && !settleLowest(name)) {
                    return false;
                }
            }
            return true;
        }

        private boolean settleLowest(int name) {
            int options = may[name];
            for (int i = 0; i < STARS; i++) {
                if ((options >> i & 1) != 0) {
                    may[name] = 1 << i;
                    if (search(0, tale.names, 1) > 0) {
                        return true;
                    }
                }
            }
            return false;
        }

        private void begin(Tale told, int shown, int[] lines) {
            tale = told;
            joined = lines;
            deadEnds = 0;
            for (int name = 0; name < Tale.NAMES; name++) {
                may[name] = withLegs(shown, Integer.bitCount(tale.near[name]));
            }
            for (int i = 0; i < STARS; i++) {
                twins[i] = 1 << i;
                for (int other = 0; other < i && (shown >> i & 1) != 0; other++) {
                    int pair = 1 << i | 1 << other;
                    boolean isTwin = ((joined[i] ^ joined[other]) & shown & ~pair) == 0;
                    if (isTwin && (shown >> other & 1) != 0) {
                        twins[i] |= 1 << other;
                        twins[other] |= 1 << i;
                    }
                }
            }
        }

        private int withLegs(int shown, int legs) {
            int bits = 0;
            for (int i = 0; i < STARS; i++) {
                if ((shown >> i & 1) != 0 && Integer.bitCount(joined[i] & shown) >= legs) {
                    bits |= 1 << i;
                }
            }
            return bits;
        }

        /**
         * Settles the names that are left (bits), ahead the one that may be the fewest STARS. Of twins that it
         * may be one is tried for all: the names that are left can't tell them apart (those that findFirst
         * settled can, but they may be one STAR alone, and so are never left here).
         */
        private int search(int settled, int left, int most) {
            if (left == 0 || settled >= Tale.NAMES) {
                return left == 0 ? 1 : 0;
            }
            int name = tightest(settled, left);
            int options = may[settled * Tale.NAMES + name];
            int others = left & ~(1 << name);
            int ways = 0;
            for (int i = 0; i < STARS && ways < most; i++) {
                if ((options >> i & 1) != 0) {
                    int like = Integer.bitCount(options & twins[i]);
                    options &= ~twins[i];
                    starOf[name] = i;
                    if (narrow(settled, others, name, i) && (deadEnds < FEW_DEAD_ENDS || agree(settled + 1, others))) {
                        ways += like * search(settled + 1, others, most - ways);
                    } else {
                        deadEnds++;
                    }
                }
            }
            return Math.min(ways, most);
        }

        private int tightest(int settled, int left) {
            int best = 0;
            int least = Tale.NAMES * (STARS + 1);
            for (int name = 0; name < Tale.NAMES; name++) {
                if ((left >> name & 1) != 0) {
                    // Of like ones the one with most LINES: it tells most about the others.
                    int options = Integer.bitCount(may[settled * Tale.NAMES + name]);
                    int rank = Tale.NAMES * options - Integer.bitCount(tale.near[name]);
                    if (rank < least) {
                        least = rank;
                        best = name;
                    }
                }
            }
            return best;
        }

        /** What the other names may be once a name is a STAR; false: one of them may be none. */
        private boolean narrow(int settled, int others, int name, int i) {
            int from = settled * Tale.NAMES;
            int to = from + Tale.NAMES;
            for (int other = 0; other < Tale.NAMES; other++) {
                if ((others >> other & 1) != 0) {
                    int bits = may[from + other] & ~(1 << i);
                    if ((tale.near[name] >> other & 1) != 0) {
                        bits &= joined[i];
                    }
                    if (bits == 0) {
                        return false;
                    }
                    may[to + other] = bits;
                }
            }
            return true;
        }

        /**
         * Leaves each name that is left only STARS which have a LINE with one that the next name may be, till
         * nothing changes any more; false: one of them may be none.
         */
        private boolean agree(int settled, int left) {
            int from = settled * Tale.NAMES;
            boolean isChanged = true;
            for (int rounds = 0; rounds < Tale.NAMES * STARS && isChanged; rounds++) {
                isChanged = false;
                for (int name = 0; name < Tale.NAMES; name++) {
                    int nearOnes = (left >> name & 1) == 0 ? 0 : tale.near[name] & left;
                    int bits = may[from + name];
                    for (int other = 0; other < Tale.NAMES; other++) {
                        if ((nearOnes >> other & 1) != 0) {
                            bits &= besides(may[from + other]);
                        }
                    }
                    if (nearOnes != 0 && bits == 0) {
                        return false;
                    }
                    isChanged = isChanged || bits != may[from + name];
                    may[from + name] = bits;
                }
            }
            return true;
        }

        /** The STARS (bits) that have a LINE with one of some. */
        private int besides(int some) {
            int bits = 0;
            for (int i = 0; i < STARS; i++) {
                if ((some >> i & 1) != 0) {
                    bits |= joined[i];
                }
            }
            return bits;
        }

        /** The fewest columns (bits) that hide a TALE; NONE: more than four. */
        int fewestColumns(Tale told, View view) {
            fewest = NONE;
            for (int columns = 1; columns <= MOST_HIDING && fewest == NONE; columns++) {
                hide(told, view, 0, columns);
            }
            return fewest;
        }

        /** Each way must lose a STAR: so one of the columns of any way that is left must be clouded. */
        private void hide(Tale told, View view, int clouded, int left) {
            if (fewest != NONE && clouded >= fewest) {
                return;
            }
            int shown = notIn(view, clouded);
            if (countWays(told, shown, view.joined, 1) == 0) {
                fewest = clouded;
                return;
            }
            if (left <= 0) {
                return;
            }
            int columns = columnsOfWay(told, view.sky);
            for (int c = 0; c < COLUMNS; c++) {
                if ((columns >> c & 1) != 0) {
                    hide(told, view, clouded | 1 << c, left - 1);
                }
            }
        }

        private static int notIn(View view, int clouded) {
            int bits = 0;
            for (int i = 0; i < STARS; i++) {
                if ((view.shown >> i & 1) != 0 && (clouded >> view.sky.standing(i) & 1) == 0) {
                    bits |= 1 << i;
                }
            }
            return bits;
        }

        private int columnsOfWay(Tale told, Sky sky) {
            int columns = 0;
            for (int name = 0; name < Tale.NAMES; name++) {
                if ((told.names >> name & 1) != 0) {
                    columns |= 1 << sky.standing(starOf[name]);
                }
            }
            return columns;
        }
    }

    /** Steers ships by stars, and brings them together. */
    private static final class Pilot {
        static final int MOST_BY_TWO = 12;
        private static final int MOST_LEGS = (MOST_BY_TWO - 1) * STARS;
        /** So many ways BY TWO of as many HOURS can be: by first STAR, K and second STAR. */
        private static final int RANKS = STARS * MOST_BY_TWO * STARS;

        int hoursTaken = 0;
        int firstStar = NONE;
        /** The document's K. */
        int turn = 0;
        int secondStar = NONE;
        /** Where each STAR has brought the SHIP. */
        private final int[] brought = new int[STARS];
        /** The first legs: by which STAR, for how long, where to; and where a second STAR brought it from there. */
        private final int[] legStar = new int[MOST_LEGS];
        private final int[] legHours = new int[MOST_LEGS];
        private final int[] legEnd = new int[MOST_LEGS];
        private final int[] legNow = new int[MOST_LEGS];
        private int legs = 0;
        private int best = NONE;
        /** The PLACE where a SHIP is after the HOUR that is looked at, by each PLACE; NONE: not asked for yet. */
        private final int[] stepped = new int[PLACES];
        private final int[] hoursFromOne = new int[PLACES];
        private final int[] hoursFromOther = new int[PLACES];
        private final int[] queue = new int[PLACES];

        /** The PLACE where a SHIP is after an HOUR in which it is steered by a STAR. */
        int step(View view, Sea sea, int place, int i) {
            int x = columnOf(place);
            int y = rowOf(place);
            view.goTo(x, y);
            if (!view.sees(i)) {
                return place;
            }
            int toTheRight = Math.floorMod(view.sky.standing(i) - x, COLUMNS);
            int columns = Math.min(toTheRight, COLUMNS - toTheRight);
            int up = view.sky.row[i] - y;
            if (columns == 0 && up == 0) {
                return place;
            }
            int how;
            if (columns >= Math.abs(up)) {
                how = toTheRight <= COLUMNS / 2 ? 1 : 2;
            } else {
                how = up > 0 ? 3 : 4;
            }
            int next = sea.goFrom(place, how);
            return next == NONE ? place : next;
        }

        /** Turns the sky of the view onward: the caller hands it one that may be spoilt. */
        boolean findFastest(View view, Sea sea, int from, int to, int most) {
            Sky sky = view.sky;
            if (from == to) {
                hoursTaken = 0;
                firstStar = lowestOf(sky.told);
                return true;
            }
            Arrays.fill(brought, from);
            for (int t = 1; t <= most; t++) {
                stepFirstLegs(view, sea);
                for (int i = 0; i < STARS; i++) {
                    if (sky.hasStar(i) && brought[i] == to) {
                        hoursTaken = t;
                        firstStar = i;
                        return true;
                    }
                }
                turnOnward(view);
            }
            return false;
        }

        /** Turns the sky of the view onward, and makes it like the one that is now again for each second STAR. */
        boolean findByTwo(View view, Sea sea, Sky now, int from, int to, int most) {
            legs = 0;
            Arrays.fill(brought, from);
            for (int t = 1; t < most; t++) {
                stepFirstLegs(view, sea);
                endFirstLegs(now, t);
                turnOnward(view);
            }
            best = NONE;
            for (int i = 0; i < STARS; i++) {
                if (now.hasStar(i)) {
                    view.sky.copyFrom(now);
                    view.open(view.sky, view.law);
                    followSecond(view, sea, i, to, most);
                }
            }
            if (best == NONE) {
                return false;
            }
            hoursTaken = best / RANKS;
            firstStar = best / (MOST_BY_TWO * STARS) % STARS;
            turn = best / STARS % MOST_BY_TWO;
            secondStar = best % STARS;
            return true;
        }

        private void turnOnward(View view) {
            view.sky.passHour();
            view.open(view.sky, view.law);
        }

        private void stepFirstLegs(View view, Sea sea) {
            for (int i = 0; i < STARS; i++) {
                if (view.sky.hasStar(i)) {
                    brought[i] = step(view, sea, brought[i], i);
                }
            }
        }

        /** A first STAR that brought the SHIP where a lower one did is never the answer. */
        private void endFirstLegs(Sky sky, int t) {
            for (int i = 0; i < STARS; i++) {
                if (sky.hasStar(i) && !isBroughtByLower(sky, i) && legs < MOST_LEGS) {
                    legStar[legs] = i;
                    legHours[legs] = t;
                    legEnd[legs] = brought[i];
                    legs++;
                }
            }
        }

        private boolean isBroughtByLower(Sky sky, int i) {
            for (int lower = 0; lower < i; lower++) {
                if (sky.hasStar(lower) && brought[lower] == brought[i]) {
                    return true;
                }
            }
            return false;
        }

        private void followSecond(View view, Sea sea, int i, int to, int most) {
            for (int t = 1; t <= most && (best == NONE || t <= best / RANKS); t++) {
                Arrays.fill(stepped, NONE);
                // The legs lie by HOURS: behind the first that has not ended yet there are only such.
                for (int leg = 0; leg < legs && legHours[leg] < t; leg++) {
                    int place = legHours[leg] == t - 1 ? legEnd[leg] : legNow[leg];
                    if (stepped[place] == NONE) {
                        stepped[place] = step(view, sea, place, i);
                    }
                    legNow[leg] = stepped[place];
                    if (legNow[leg] == to) {
                        int rank = t * RANKS + (legStar[leg] * MOST_BY_TWO + legHours[leg]) * STARS + i;
                        best = best == NONE ? rank : Math.min(best, rank);
                    }
                }
                turnOnward(view);
            }
        }

        /** Where two that set out from here and there meet after the fewest HOURS; NONE: nowhere. */
        int meetingPlace(Sea sea, int here, int there) {
            spread(sea, here, hoursFromOne);
            spread(sea, there, hoursFromOther);
            int best = NONE;
            for (int place = 0; place < PLACES; place++) {
                boolean canMeet = hoursFromOne[place] != NONE && hoursFromOther[place] != NONE;
                if (canMeet && (best == NONE || hoursTo(place) < hoursTo(best))) {
                    best = place;
                }
            }
            return best;
        }

        /** Of the meeting that was asked for last: HOURS till both are at a PLACE (who is there first waits). */
        int hoursTo(int place) {
            return Math.max(hoursFromOne[place], hoursFromOther[place]);
        }

        private void spread(Sea sea, int from, int[] hoursFrom) {
            Arrays.fill(hoursFrom, NONE);
            hoursFrom[from] = 0;
            queue[0] = from;
            int queued = 1;
            for (int next = 0; next < queued && next < PLACES; next++) {
                int place = queue[next];
                for (int how = 1; how < Sea.WAYS; how++) {
                    int to = sea.goFrom(place, how);
                    if (to != NONE && hoursFrom[to] == NONE && queued < PLACES) {
                        hoursFrom[to] = hoursFrom[place] + 1;
                        queue[queued] = to;
                        queued++;
                    }
                }
            }
        }
    }

    /** PATCHES: PLACES that look alike, and PLACES by what is known of them. */
    private static final class Patches {
        static final int MOST_PARTS = 12;

        private final int[] shownAt = new int[PLACES];
        /** What like PATCHES have alike, and others seldom: they are looked at closely only then. */
        private final long[] markAt = new long[PLACES];
        private final int[] told = new int[MOST_PARTS];
        private int toldParts = 0;
        private final int[] someParts = new int[STARS];
        private final int[] otherParts = new int[STARS];
        private final Sky sky;

        Patches(Sky sky) {
            this.sky = sky;
        }

        void lookEverywhere(View view) {
            for (int place = 0; place < PLACES; place++) {
                view.look(columnOf(place), rowOf(place));
                shownAt[place] = view.shown;
                markAt[place] = 0;
                int parts = fillParts(view.shown, place, someParts);
                for (int p = 0; p < parts; p++) {
                    markAt[place] |= 1L << (someParts[p] * 0x9E3779B1 >>> 26);
                }
            }
        }

        /** The parts of a PATCH, as they are told on the tape. */
        private int fillParts(int shown, int place, int[] parts) {
            int size = 0;
            for (int i = 0; i < STARS; i++) {
                if ((shown >> i & 1) != 0 && size < parts.length) {
                    int right = Math.floorMod(sky.standing(i) - columnOf(place), COLUMNS);
                    int columns = right > COLUMNS / 2 ? right - COLUMNS : right;
                    parts[size] = partOf(columns + 12, sky.row[i] - rowOf(place) + 12, sky.bright[i]);
                    size++;
                }
            }
            return size;
        }

        private static int partOf(int columns, int rows, int bright) {
            return columns << 16 | rows << 8 | bright;
        }

        private static boolean hasAll(int[] parts, int size, int[] wanted, int wantedSize) {
            for (int w = 0; w < wantedSize; w++) {
                boolean isThere = false;
                for (int p = 0; p < size && !isThere; p++) {
                    isThere = parts[p] == wanted[w];
                }
                if (!isThere) {
                    return false;
                }
            }
            return true;
        }

        int countAlike() {
            int places = 0;
            for (int place = 0; place < PLACES; place++) {
                if (alikeTo(place, 0) != NONE) {
                    places++;
                }
            }
            return places;
        }

        int firstAlike() {
            for (int place = 0; place < PLACES; place++) {
                if (alikeTo(place, 0) != NONE) {
                    return place;
                }
            }
            return NONE;
        }

        /** The first other PLACE, from a number on, that is ALIKE one from which something is SEEN. */
        int alikeTo(int place, int from) {
            if (shownAt[place] == 0) {
                return NONE;
            }
            for (int other = from; other < PLACES; other++) {
                if (other != place && markAt[other] == markAt[place] && isSame(place, other)) {
                    return other;
                }
            }
            return NONE;
        }

        private boolean isSame(int place, int other) {
            int some = fillParts(shownAt[place], place, someParts);
            int others = fillParts(shownAt[other], other, otherParts);
            return hasAll(someParts, some, otherParts, others) && hasAll(otherParts, others, someParts, some);
        }

        void takeParts(Tape tape, int n) {
            toldParts = Math.min(n, MOST_PARTS);
            for (int p = 0; p < toldParts; p++) {
                told[p] = partOf(tape.byteAt(3 * p), tape.byteAt(3 * p + 1), tape.byteAt(3 * p + 2));
            }
        }

        /** Whether what a view shows has all the told parts (and, if asked, no other one). */
        boolean isKnown(View view, boolean justThem) {
            int some = fillParts(view.shown, placeOf(view.x, view.y), someParts);
            return hasAll(someParts, some, told, toldParts)
                    && (!justThem || hasAll(told, toldParts, someParts, some));
        }
    }

    /** Chooses sets of stars: the fewest that tell places apart, the dearest that can be carried. */
    private static final class Chooser {
        static final int MOST_PLACES = 8;
        static final int MOST_HEAVY = 999;

        /** What is SEEN from each of the told PLACES. */
        final int[] shown = new int[MOST_PLACES];
        /** The pairs of told PLACES (bits) that each STAR tells apart. */
        private final int[] parts = new int[STARS];
        private final int[] partsUpTo = new int[STARS];
        private final int[] worth = new int[STARS];
        private final int[] weight = new int[STARS];
        private final int[] bestWorth = new int[MOST_HEAVY + 1];
        private final int[] bestBits = new int[MOST_HEAVY + 1];

        /** The fewest STARS (bits) that tell n PLACES apart; NONE: they can't be told apart. */
        int fewestNamed(int n) {
            int places = Math.min(n, MOST_PLACES);
            int all = 0;
            for (int i = 0; i < STARS; i++) {
                parts[i] = pairsApart(i, places);
                for (int lower = 0; lower < i; lower++) {
                    // A lower STAR that does the same makes for lesser bits.
                    if (parts[lower] == parts[i]) {
                        parts[i] = 0;
                    }
                }
                all |= parts[i];
                partsUpTo[i] = all;
            }
            int pairs = places * (places - 1) / 2;
            if (Integer.bitCount(all) != pairs) {
                return NONE;
            }
            // So many PLACES that can be told apart at all need a STAR less than they are, at most.
            for (int stars = 1; stars < places; stars++) {
                int bits = leastCover(stars, STARS, all);
                if (bits != NONE) {
                    return bits;
                }
            }
            return NONE;
        }

        private int pairsApart(int i, int places) {
            int bits = 0;
            int pair = 0;
            for (int p = 0; p < places; p++) {
                for (int q = 0; q < p; q++) {
                    if (((shown[p] ^ shown[q]) >> i & 1) != 0) {
                        bits |= 1 << pair;
                    }
                    pair++;
                }
            }
            return bits;
        }

        /** The least bits of just so many STARS below a number that tell all needed pairs apart. */
        private int leastCover(int stars, int below, int need) {
            if (stars <= 0) {
                return need == 0 ? 0 : NONE;
            }
            for (int highest = 0; highest < below && highest < STARS; highest++) {
                boolean isHelp = (parts[highest] & need) != 0 && (partsUpTo[highest] & need) == need;
                if (isHelp) {
                    int bits = leastCover(stars - 1, highest, need & ~parts[highest]);
                    if (bits != NONE) {
                        return bits | 1 << highest;
                    }
                }
            }
            return NONE;
        }

        void weighStars(Sky sky, Law law) {
            law.forgetLetters();
            law.setTime(sky);
            for (int i = 0; i < STARS; i++) {
                worth[i] = 0;
                weight[i] = 0;
                if (sky.hasStar(i)) {
                    law.setStar(sky, i);
                    worth[i] = law.amount('w', 999);
                    weight[i] = law.amount('g', 99);
                }
            }
        }

        /** The STARS that are worth most within a weight: what is worth nothing is left, for the least bits. */
        int bestSold(int told, int most) {
            Arrays.fill(bestWorth, 0);
            Arrays.fill(bestBits, 0);
            for (int i = 0; i < STARS; i++) {
                if ((told >> i & 1) != 0 && worth[i] > 0) {
                    offer(i, most);
                }
            }
            return bestBits[most];
        }

        /** From the heaviest down, so that no STAR is sold twice; like ones stay without this higher one. */
        private void offer(int i, int most) {
            for (int heavy = most; heavy >= weight[i]; heavy--) {
                int rest = heavy - weight[i];
                if (bestWorth[rest] + worth[i] > bestWorth[heavy]) {
                    bestWorth[heavy] = bestWorth[rest] + worth[i];
                    bestBits[heavy] = bestBits[rest] | 1 << i;
                }
            }
        }

        int worthOf(int bits) {
            int sum = 0;
            for (int i = 0; i < STARS; i++) {
                sum += (bits >> i & 1) * worth[i];
            }
            return sum;
        }

        int weightOf(int bits) {
            int sum = 0;
            for (int i = 0; i < STARS; i++) {
                sum += (bits >> i & 1) * weight[i];
            }
            return sum;
        }
    }
}
