import java.util.Arrays;

/** A town's walls lent to painters; the document's numbered promises say what each call does. */
public final class WallHouse {
    public static final int NONE = -1;

    /** What calls answer for something that could be there but isn't (bare, not over, of none). */
    private static final int NOTHING = -2;

    private static final int NO_SUCH = 1;
    private static final int NUMBER = 2;
    private static final int NO_ROOM = 3;
    private static final int FAULT = 4;
    private static final int NOT_SO = 5;
    private static final int TOO_MANY = 6;

    private static final int MOST_WALLS = 16;
    private static final int MOST_WIDE = 16;
    private static final int MOST_HIGH = 12;
    private static final int MOST_CELLS = 192;
    private static final int MOST_PAINTERS = 10;
    private static final int MOST_DRAWINGS = 12;
    private static final int MOST_BARS = 12;
    private static final int MOST_BYTES = 400;
    private static final int MOST_LETTERS = 8;
    private static final int COLOURS = 8;
    private static final int STYLES = 6;
    private static final int ALL_THEMES = 1023;
    private static final int LAST_DAY = 3649;
    private static final int DAYS_A_YEAR = 365;
    private static final int LAST_YEAR = 9;
    private static final int LAST_PERSON = 99;

    private final Walls walls;
    private final Painters painters;
    private final Works works;
    private final Giver giver;
    private final Streets streets;
    private final byte[] tape;
    private int tapeLength;
    private final Tokens tokens;
    private final DrawingReader reader;
    private final Drawing[] drawings;
    private int drawingCount;
    private final long[] bars;
    private int barCount;
    private final Rights rights;
    private final Canvas theSketch;
    private final Canvas thePlan;
    private int trouble;
    private int fault;
    private int place;

    public WallHouse() {
        walls = new Walls();
        painters = new Painters();
        works = new Works(walls);
        giver = new Giver(walls, painters, works);
        streets = new Streets(walls);
        tape = new byte[MOST_BYTES];
        tokens = new Tokens();
        reader = new DrawingReader(tokens);
        drawings = new Drawing[MOST_DRAWINGS];
        bars = new long[MOST_BARS];
        rights = new Rights(tokens);
        theSketch = new Canvas(bars);
        thePlan = new Canvas(bars);
    }

    // ---- walls

    public int wall(int wide, int high, int side, int owner) {
        if (!within(wide, 1, MOST_WIDE) || !within(high, 1, MOST_HIGH)
                || !within(side, 0, 3) || !within(owner, 0, LAST_PERSON)) {
            return refuse(NUMBER);
        }
        if (walls.size >= MOST_WALLS) {
            return refuse(NO_ROOM);
        }
        return tell(walls.add(new Wall(wide, high, side, owner)));
    }

    public int about(int wall, int what) {
        Wall w = walls.at(wall);
        if (w == null) {
            return NONE;
        }
        switch (what) {
            case 0: return w.wide;
            case 1: return w.high;
            case 2: return w.side;
            case 3: return w.owner;
            case 4: return w.hasLeave(works.year()) ? 1 : 0;
            case 5: return w.holeCount();
            case 6: return w.openWork;
            case 7: return w.themeBits;
            case 8: return w.painted();
            case 9: return w.overWork;
            default: return NONE;
        }
    }

    public int hole(int wall, int x, int y, int wide, int high) {
        Wall w = walls.at(wall);
        if (w == null) {
            return refuse(NO_SUCH);
        }
        if (!w.holds(x, y, wide, high)) {
            return refuse(NUMBER);
        }
        if (w.openWork != NOTHING) {
            return refuse(NOT_SO);
        }
        return tell(w.cut(x, y, wide, high));
    }

    public boolean leave(int wall, int from, int to, boolean carries) {
        Wall w = walls.at(wall);
        if (w == null) {
            return deny(NO_SUCH);
        }
        if (!within(from, 0, LAST_YEAR) || !within(to, from, LAST_YEAR)) {
            return deny(NUMBER);
        }
        w.setLeave(from, to, carries);
        return grant();
    }

    public boolean sold(int wall, int owner) {
        Wall w = walls.at(wall);
        if (w == null) {
            return deny(NO_SUCH);
        }
        if (!within(owner, 0, LAST_PERSON)) {
            return deny(NUMBER);
        }
        w.sellTo(owner);
        return grant();
    }

    public boolean beside(int one, int other, boolean is) {
        if (!walls.arePair(one, other)) {
            return deny(NO_SUCH);
        }
        walls.setBeside(one, other, is);
        return grant();
    }

    public boolean minutes(int one, int other, int v) {
        if (!walls.arePair(one, other)) {
            return deny(NO_SUCH);
        }
        if (!within(v, 1, 120)) {
            return deny(NUMBER);
        }
        walls.setWay(one, other, v);
        return grant();
    }

    // ---- drawings

    public int feed(int a, int b, int c, int d, int e) {
        if (tapeLength + 20 > MOST_BYTES) {
            return NONE;
        }
        putBytes(a);
        putBytes(b);
        putBytes(c);
        putBytes(d);
        putBytes(e);
        return tapeLength;
    }

    public int drawing(int n) {
        if (!within(n, 0, tapeLength)) {
            return refuse(NUMBER);
        }
        tapeLength = 0;
        tokens.cut(tape, n);
        reader.read();
        noteFault(tokens.fault, tokens.place);
        if (fault != 0) {
            return refuse(FAULT);
        }
        if (drawingCount >= MOST_DRAWINGS) {
            return refuse(NO_ROOM);
        }
        drawings[drawingCount] = new Drawing(reader.out);
        drawingCount++;
        return tell(drawingCount - 1);
    }

    public int bar(int n) {
        if (!within(n, 0, tapeLength)) {
            return refuse(NUMBER);
        }
        tapeLength = 0;
        int good = lettersAhead(n);
        if (n == 0 || good < n) {
            noteFault(Tokens.FORM, good);
            return refuse(FAULT);
        }
        noteFault(0, NONE);
        if (barCount >= MOST_BARS) {
            return refuse(NO_ROOM);
        }
        bars[barCount] = packedWord(n);
        barCount++;
        return tell(barCount);
    }

    public int right(int n) {
        if (!within(n, 0, tapeLength)) {
            return refuse(NUMBER);
        }
        tapeLength = 0;
        tokens.cut(tape, n);
        rights.read();
        noteFault(tokens.fault, tokens.place);
        if (fault != 0) {
            return refuse(FAULT);
        }
        if (!rights.keep()) {
            return refuse(NO_ROOM);
        }
        return tell(rights.size - 1);
    }

    public int fault() {
        return fault;
    }

    public int where() {
        return trouble == FAULT ? place : NONE;
    }

    public int sketch(int drawing, int wall) {
        Wall w = walls.at(wall);
        Drawing d = drawingAt(drawing);
        if (w == null || d == null) {
            return refuse(NO_SUCH);
        }
        theSketch.paint(d, w, barCount);
        return tell(theSketch.painted());
    }

    public int sketched(int x, int y) {
        if (!theSketch.holds(x, y)) {
            return NONE;
        }
        int colour = theSketch.colourAt(x, y);
        return colour == NONE ? NOTHING : colour;
    }

    public int sketchOf(int what) {
        if (!theSketch.made) {
            return NONE;
        }
        if (within(what, 0, COLOURS - 1)) {
            return theSketch.area(what);
        }
        switch (what) {
            case 8: return theSketch.steps;
            case 9: return theSketch.spent ? 1 : 0;
            case 10: return Integer.bitCount(theSketch.shownBars);
            default: return NONE;
        }
    }

    public int unlike(int wall) {
        Wall w = walls.at(wall);
        if (w == null || !theSketch.made || w.wide != theSketch.wide || w.high != theSketch.high) {
            return NONE;
        }
        int different = 0;
        for (int c = 0; c < w.colours.length && c < MOST_CELLS; c++) {
            if (w.colours[c] != theSketch.cells[c]) {
                different++;
            }
        }
        return different;
    }

    // ---- painters

    public int painter(int style, int kin) {
        if (!within(style, 0, STYLES - 1) || !within(kin, 0, LAST_PERSON)) {
            return refuse(NUMBER);
        }
        if (painters.size >= MOST_PAINTERS) {
            return refuse(NO_ROOM);
        }
        return tell(painters.add(style, kin));
    }

    public boolean wish(int painter, int wall, int v) {
        if (!painters.has(painter) || walls.at(wall) == null) {
            return deny(NO_SUCH);
        }
        if (!within(v, 0, 9)) {
            return deny(NUMBER);
        }
        painters.setWish(painter, wall, v);
        return grant();
    }

    public boolean vote(int neighbour, int painter, int wall, int v) {
        if (!painters.has(painter) || walls.at(wall) == null) {
            return deny(NO_SUCH);
        }
        if (!within(neighbour, 0, LAST_PERSON) || !within(v, 0, 5)) {
            return deny(NUMBER);
        }
        if (painters.isKin(painter, neighbour)) {
            return deny(NOT_SO);
        }
        if (!painters.takeVote(neighbour, painter, wall, v)) {
            return deny(NO_ROOM);
        }
        return grant();
    }

    public int liked(int painter, int wall) {
        if (!painters.has(painter) || walls.at(wall) == null) {
            return NONE;
        }
        return painters.likedOn(painter, wall);
    }

    public int give(int walls) {
        if (!giver.areWalls(walls)) {
            return refuse(NO_SUCH);
        }
        if (!giver.areFree(walls)) {
            return refuse(NOT_SO);
        }
        if (Integer.bitCount(walls) > Giver.MOST) {
            return refuse(TOO_MANY);
        }
        return tell(giver.giveAll(walls));
    }

    public int given(int wall) {
        return giver.painterFor(wall);
    }

    // ---- works and days

    public int work(int wall, int painter, int drawing) {
        Wall w = walls.at(wall);
        Drawing d = drawingAt(drawing);
        if (w == null || d == null || !painters.has(painter)) {
            return refuse(NO_SUCH);
        }
        if (!w.hasLeave(works.year()) || w.openWork != NOTHING) {
            return refuse(NOT_SO);
        }
        thePlan.paint(d, w, barCount);
        if (thePlan.shownBars != 0) {
            return refuse(NOT_SO);
        }
        if (works.size >= Works.MOST) {
            return refuse(NO_ROOM);
        }
        w.plan(thePlan.cells);
        painters.countWork(painter);
        return tell(works.begin(wall, painter, drawing, thePlan.painted()));
    }

    public int workOf(int work, int what) {
        return works.tellOf(work, what);
    }

    public boolean weather(int day, int degrees, int rain) {
        if (!within(day, works.today, LAST_DAY) || !within(degrees, -40, 50) || !within(rain, 0, 200)) {
            return deny(NUMBER);
        }
        works.setDay(day, degrees >= 10 && rain == 0);
        return grant();
    }

    public boolean lifts(int v) {
        if (!within(v, 1, 5)) {
            return deny(NUMBER);
        }
        works.liftCount = v;
        return grant();
    }

    public int end(int work) {
        return works.foretoldEnd(work);
    }

    public int ready(int day) {
        return within(day, works.today, LAST_DAY) ? works.foretoldOver(day) : NONE;
    }

    public int tin(int colour, int cells) {
        if (!within(colour, 0, COLOURS - 1) || !within(cells, 1, 999)) {
            return refuse(NUMBER);
        }
        if (works.tinCount >= Works.MOST_TINS) {
            return refuse(NO_ROOM);
        }
        return tell(works.addTin(colour, cells));
    }

    public int left(int tin) {
        return works.isTin(tin) ? works.tinLeft[tin] : NONE;
    }

    public int pass(int days) {
        if (!within(days, 1, 100) || days > LAST_DAY - works.today) {
            return refuse(NUMBER);
        }
        return tell(works.goBy(days));
    }

    public int cell(int wall, int x, int y) {
        Wall w = walls.at(wall);
        if (w == null || !w.holds(x, y, 1, 1)) {
            return NONE;
        }
        int colour = w.colourOf(w.placeOf(x, y));
        return colour == NONE ? NOTHING : colour;
    }

    public int looks(int wall, int colour) {
        Wall w = walls.at(wall);
        if (w == null || !within(colour, 0, COLOURS - 1)) {
            return NONE;
        }
        return w.overWork == NOTHING ? NOTHING : w.freshness(colour, works.today);
    }

    public int pale(int bound) {
        if (!within(bound, 0, 100)) {
            return refuse(NUMBER);
        }
        int found = 0;
        for (int i = 0; i < walls.size; i++) {
            Wall w = walls.at(i);
            if (w != null && w.isPale(bound, works.today)) {
                found++;
            }
        }
        return tell(found);
    }

    // ---- tags, trails, rights

    public int tag(int wall, int within) {
        if (walls.at(wall) == null) {
            return refuse(NO_SUCH);
        }
        if (!within(within, 1, 30)) {
            return refuse(NUMBER);
        }
        if (streets.tagCount >= Streets.MOST_TAGS) {
            return refuse(NO_ROOM);
        }
        return tell(streets.addTag(wall, works.today + within));
    }

    public boolean clean(int tag) {
        if (!streets.isTag(tag)) {
            return deny(NO_SUCH);
        }
        if (!streets.cleanTag(tag, works.today)) {
            return deny(NOT_SO);
        }
        return grant();
    }

    public int late() {
        return streets.lateTags(works.today);
    }

    public int round(int minutes) {
        if (!within(minutes, 0, 600)) {
            return refuse(NUMBER);
        }
        if (walls.size == 0) {
            return refuse(NO_SUCH);
        }
        return tell(streets.goRound(minutes, works.today));
    }

    public boolean themes(int wall, int themes) {
        Wall w = walls.at(wall);
        if (w == null) {
            return deny(NO_SUCH);
        }
        if (!within(themes, 0, ALL_THEMES)) {
            return deny(NUMBER);
        }
        w.themeBits = themes;
        return grant();
    }

    public int trail(int themes) {
        if (!within(themes, 0, ALL_THEMES)) {
            return refuse(NUMBER);
        }
        int stops = streets.findStops(themes);
        if (stops > Streets.MOST_STOPS) {
            return refuse(TOO_MANY);
        }
        return tell(stops == 0 ? NOTHING : streets.shortestTrail());
    }

    public int trailOf() {
        return streets.trailWalls;
    }

    public int gets(int right, int fee, int who) {
        if (!within(right, 0, rights.size - 1)) {
            return refuse(NO_SUCH);
        }
        if (!within(fee, 0, 1000000) || !within(who, 0, 3)) {
            return refuse(NUMBER);
        }
        return tell(rights.shareOf(right, fee, who));
    }

    // ---- led

    public int led(int wall, int x, int y, int what) {
        Wall w = walls.at(wall);
        if (w == null || !w.holds(x, y, 1, 1)) {
            return NONE;
        }
        int c = w.placeOf(x, y);
        if (w.colourOf(c) == NONE) {
            return NONE;
        }
        switch (what) {
            case 0: return w.overWork;
            case 1: return works.tellOf(w.overWork, 1);
            case 2: return w.tinOf(c);
            default: return NONE;
        }
    }

    public int shows(int tin) {
        if (!works.isTin(tin)) {
            return NONE;
        }
        int cells = 0;
        for (int i = 0; i < walls.size; i++) {
            Wall w = walls.at(i);
            if (w != null) {
                cells += w.cellsOfTin(tin);
            }
        }
        return cells;
    }

    public int count(int what) {
        switch (what) {
            case 0: return walls.size;
            case 1: return painters.size;
            case 2: return drawingCount;
            case 3: return barCount;
            case 4: return works.size;
            case 5: return works.overCount();
            case 6: return works.tinCount;
            case 7: return streets.tagCount;
            case 8: return rights.size;
            case 9: return works.today;
            case 10: return painters.voteCount;
            case 11: return tapeLength;
            default: return NONE;
        }
    }

    public int trouble() {
        return trouble;
    }

    // ---- what the calls share

    private static boolean within(int v, int low, int high) {
        return v >= low && v <= high;
    }

    private int refuse(int why) {
        trouble = why;
        return NONE;
    }

    private int tell(int answer) {
        trouble = 0;
        return answer;
    }

    private boolean deny(int why) {
        trouble = why;
        return false;
    }

    private boolean grant() {
        trouble = 0;
        return true;
    }

    private void noteFault(int kind, int at) {
        fault = kind;
        place = at;
    }

    private Drawing drawingAt(int n) {
        return n >= 0 && n < drawingCount && n < drawings.length ? drawings[n] : null;
    }

    private void putBytes(int four) {
        for (int shift = 24; shift >= 0 && tapeLength < tape.length; shift -= 8) {
            tape[tapeLength] = (byte) (four >> shift);
            tapeLength++;
        }
    }

    /** How many of THE TAPE's first n bytes could begin a BAR. */
    private int lettersAhead(int n) {
        int good = 0;
        while (good < n && good < MOST_LETTERS && Tokens.isLetter(tape[good])) {
            good++;
        }
        return good;
    }

    private long packedWord(int n) {
        long packed = 0;
        for (int i = 0; i < n && i < tape.length; i++) {
            packed = Tokens.withLetter(packed, tape[i]);
        }
        return packed;
    }

    /** A WALL with what is told of it and what is painted on it. */
    private static final class Wall {
        private static final int[] FADES = {1, 2, 3, 2};

        final int wide;
        final int high;
        final int side;
        int owner;
        int leaveFrom;
        int leaveTo;
        boolean leaveCarries;
        int themeBits;
        int openWork;
        int overWork;
        int overDay;
        final boolean[] holes;
        final byte[] colours;
        final byte[] tins;
        final byte[] coming;

        Wall(int wide, int high, int side, int owner) {
            this.wide = Math.min(Math.max(wide, 1), MOST_WIDE);
            this.high = Math.min(Math.max(high, 1), MOST_HIGH);
            this.side = side;
            this.owner = owner;
            leaveFrom = 0;
            leaveTo = NONE;
            openWork = NOTHING;
            overWork = NOTHING;
            int cells = this.wide * this.high;
            holes = new boolean[cells];
            colours = new byte[cells];
            tins = new byte[cells];
            coming = new byte[cells];
            Arrays.fill(colours, (byte) NONE);
            Arrays.fill(tins, (byte) NOTHING);
        }

        boolean hasLeave(int year) {
            return year >= leaveFrom && year <= leaveTo;
        }

        void setLeave(int from, int to, boolean carries) {
            leaveFrom = from;
            leaveTo = to;
            leaveCarries = carries;
        }

        /** Years that are gone are never asked of again, so a LEAVE that doesn't CARRY ends whole. */
        void sellTo(int buyer) {
            owner = buyer;
            if (!leaveCarries) {
                leaveFrom = 0;
                leaveTo = NONE;
            }
        }

        boolean holds(int x, int y, int w, int h) {
            return x >= 0 && x < wide && y >= 0 && y < high
                    && w >= 1 && w <= wide - x && h >= 1 && h <= high - y;
        }

        int placeOf(int x, int y) {
            return y * wide + x;
        }

        int colourOf(int c) {
            return c >= 0 && c < colours.length ? colours[c] : NONE;
        }

        int tinOf(int c) {
            return c >= 0 && c < tins.length ? tins[c] : NOTHING;
        }

        /** What was painted where a HOLE is cut is gone with it. */
        int cut(int x, int y, int w, int h) {
            if (!holds(x, y, w, h)) {
                return 0;
            }
            int more = 0;
            for (int cy = y; cy < y + h; cy++) {
                for (int cx = x; cx < x + w; cx++) {
                    int c = placeOf(cx, cy);
                    if (!holes[c]) {
                        holes[c] = true;
                        colours[c] = (byte) NONE;
                        tins[c] = (byte) NOTHING;
                        more++;
                    }
                }
            }
            return more;
        }

        int holeCount() {
            int found = 0;
            for (int c = 0; c < holes.length; c++) {
                if (holes[c]) {
                    found++;
                }
            }
            return found;
        }

        int painted() {
            int found = 0;
            for (int c = 0; c < colours.length; c++) {
                if (colours[c] != NONE) {
                    found++;
                }
            }
            return found;
        }

        /** Keeps what a WORK will leave here, since it is by the HOLES as it was begun. */
        void plan(byte[] cells) {
            for (int c = 0; c < coming.length && c < cells.length; c++) {
                coming[c] = cells[c];
            }
        }

        int latestWork() {
            return openWork != NOTHING ? openWork : overWork;
        }

        int freshness(int colour, int today) {
            int fade = side >= 0 && side < FADES.length ? FADES[side] : 0;
            if (colour > 4) {
                fade++;
            }
            return Math.max(0, 100 - (today - overDay) / 30 * fade);
        }

        /** A WALL without painted CELLS has no mean, so it isn't PALE. */
        boolean isPale(int bound, int today) {
            int sum = 0;
            int cells = 0;
            for (int c = 0; c < colours.length; c++) {
                if (colours[c] != NONE) {
                    sum += freshness(colours[c], today);
                    cells++;
                }
            }
            return cells > 0 && sum / cells < bound;
        }

        int cellsOfTin(int tin) {
            int found = 0;
            for (int c = 0; c < tins.length; c++) {
                if (tins[c] == tin) {
                    found++;
                }
            }
            return found;
        }
    }

    /** The WALLS and what is told of pairs of them. */
    private static final class Walls {
        private static final int UNTOLD_WAY = 60;

        final Wall[] all = new Wall[MOST_WALLS];
        int size;
        final int[] besideBits = new int[MOST_WALLS];
        final int[] ways = new int[MOST_WALLS * MOST_WALLS];

        Walls() {
            Arrays.fill(ways, UNTOLD_WAY);
            for (int i = 0; i < MOST_WALLS; i++) {
                ways[i * MOST_WALLS + i] = 0;
            }
        }

        Wall at(int n) {
            return n >= 0 && n < size && n < all.length ? all[n] : null;
        }

        int add(Wall w) {
            if (size >= all.length) {
                return NONE;
            }
            all[size] = w;
            size++;
            return size - 1;
        }

        boolean arePair(int one, int other) {
            return at(one) != null && at(other) != null && one != other;
        }

        void setBeside(int one, int other, boolean is) {
            if (!arePair(one, other)) {
                return;
            }
            if (is) {
                besideBits[one] |= 1 << other;
                besideBits[other] |= 1 << one;
            } else {
                besideBits[one] &= ~(1 << other);
                besideBits[other] &= ~(1 << one);
            }
        }

        boolean areBeside(int one, int other) {
            return arePair(one, other) && (besideBits[one] >> other & 1) == 1;
        }

        void setWay(int one, int other, int v) {
            if (arePair(one, other)) {
                ways[one * MOST_WALLS + other] = v;
                ways[other * MOST_WALLS + one] = v;
            }
        }

        int way(int one, int other) {
            return arePair(one, other) ? ways[one * MOST_WALLS + other] : 0;
        }
    }

    /** A text cut into TOKENS, and the FAULT that its reader met. */
    private static final class Tokens {
        static final int END = 0;
        static final int BAD = 1;
        static final int WORD = 2;
        static final int WHOLE = 3;
        static final int SIGN = 4;

        static final int FORM = 1;
        static final int UNKNOWN = 2;
        static final int ABOVE = 3;
        static final int MANY = 4;

        /** The numbers of the WORDS that texts know, as KNOWN has them. */
        static final int RECT = 0;
        static final int DISC = 1;
        static final int SAY = 2;
        static final int EACH = 3;
        static final int IF = 4;
        static final int FROM = 5;
        static final int TO = 6;
        static final int FIRST_VAR = 7;
        static final int LAST_VAR = 11;
        static final int WIDE = 12;
        static final int HIGH = 13;
        static final int FIRST_WHO = 14;
        static final int LAST_WHO = 17;
        static final int REST = 18;

        private static final String KNOWN =
                "rect disc say each if from to i j k m n wide high painter owner town school rest ";
        private static final int MOST_DIGITS = 3;
        private static final String SIGNS = "[]();<>=+-*/,%";

        final int[] kinds = new int[MOST_BYTES + 1];
        final byte[] names = new byte[MOST_BYTES + 1];
        final int[] starts = new int[MOST_BYTES + 1];
        final long[] values = new long[MOST_BYTES + 1];
        int last;
        int at;
        int fault;
        int place;

        static boolean isLetter(int b) {
            return b >= 'a' && b <= 'z';
        }

        static boolean isDigit(int b) {
            return b >= '0' && b <= '9';
        }

        /** A WORD fits a long by five bits a letter, the first the highest; a letter is never 0. */
        static long withLetter(long packed, int letter) {
            return packed * 32 + (letter - 'a' + 1);
        }

        /** Behind a byte that begins no TOKEN nothing is cut: no reader gets past it. */
        void cut(byte[] text, int n) {
            int end = Math.min(n, Math.min(text.length, MOST_BYTES));
            int next = 0;
            last = NONE;
            at = 0;
            fault = 0;
            place = NONE;
            for (int i = 0; i <= MOST_BYTES; i++) {
                while (next < end && (text[next] == 32 || text[next] == 10)) {
                    next++;
                }
                last = i;
                starts[i] = next;
                if (next >= end) {
                    kinds[i] = END;
                    return;
                }
                next = take(text, next, end);
                if (kinds[i] == BAD) {
                    return;
                }
            }
        }

        private int take(byte[] text, int from, int end) {
            if (isLetter(text[from])) {
                return takeWord(text, from, end);
            }
            if (isDigit(text[from])) {
                return takeWhole(text, from, end);
            }
            boolean known = text[from] > 0 && SIGNS.indexOf((char) text[from]) >= 0;
            kinds[last] = known ? SIGN : BAD;
            values[last] = text[from];
            return from + 1;
        }

        private int takeWord(byte[] text, int from, int end) {
            int next = from;
            long packed = 0;
            while (next < end && isLetter(text[next])) {
                packed = withLetter(packed, text[next]);
                next++;
            }
            kinds[last] = next - from <= MOST_LETTERS ? WORD : BAD;
            values[last] = packed;
            names[last] = (byte) nameOf(packed);
            return next;
        }

        /** Words are told apart as they are cut, so that readers need not spell them. */
        private static int nameOf(long word) {
            int number = 0;
            long packed = 0;
            for (int i = 0; i < KNOWN.length(); i++) {
                if (KNOWN.charAt(i) != ' ') {
                    packed = withLetter(packed, KNOWN.charAt(i));
                } else if (packed == word) {
                    return number;
                } else {
                    packed = 0;
                    number++;
                }
            }
            return NONE;
        }

        private int takeWhole(byte[] text, int from, int end) {
            int next = from;
            int number = 0;
            while (next < end && isDigit(text[next])) {
                number = number * 10 + (text[next] - '0');
                next++;
            }
            kinds[last] = next - from <= MOST_DIGITS ? WHOLE : BAD;
            values[last] = number;
            return next;
        }

        int kind() {
            return at >= 0 && at < kinds.length ? kinds[at] : END;
        }

        long value() {
            return at >= 0 && at < values.length ? values[at] : 0;
        }

        /** The sign that stands here, 0 if it is another TOKEN. */
        int sign() {
            return kind() == SIGN ? (int) value() : 0;
        }

        /** The number of the known WORD that stands here, NONE if it is another TOKEN. */
        int name() {
            return at >= 0 && at < names.length && kinds[at] == WORD ? names[at] : NONE;
        }

        void advance() {
            if (at < last) {
                at++;
            }
        }

        /** Notes a FAULT at the TOKEN that stands here; false, for readers to hand on. */
        boolean fail(int kind) {
            fault = kind;
            place = at >= 0 && at < starts.length ? starts[at] : 0;
            return false;
        }
    }

    /** A DRAWING as a row of small deeds; its SUMS stand ahead of what uses them. */
    private static final class Drawing {
        static final int STEP = 0;
        static final int WHOLE = 1;
        static final int VAR = 2;
        static final int WIDE = 3;
        static final int HIGH = 4;
        static final int SIGN = 5;
        static final int RECT = 6;
        static final int DISC = 7;
        static final int SAY = 8;
        static final int EACH = 9;
        static final int NEXT = 10;
        static final int IF = 11;

        static final int MOST_STEPS = 40;
        static final int MOST_PARTS = 120;
        static final int MOST_DEEP = 6;
        /** Of a STEP at most its beginning, its deed and its NEXT; of each PART itself and a sign. */
        private static final int MOST_DEEDS = 3 * MOST_STEPS + 2 * MOST_PARTS;

        final byte[] deeds;
        final short[] values;
        final short[] targets;
        final long[] words;
        int length;
        int wordCount;

        /** One with room for any text. */
        Drawing() {
            deeds = new byte[MOST_DEEDS];
            values = new short[MOST_DEEDS];
            targets = new short[MOST_DEEDS];
            words = new long[MOST_STEPS];
        }

        /** Another one, with no more room than it needs. */
        Drawing(Drawing other) {
            length = Math.max(0, other.length);
            wordCount = Math.max(0, other.wordCount);
            deeds = Arrays.copyOf(other.deeds, length);
            values = Arrays.copyOf(other.values, length);
            targets = Arrays.copyOf(other.targets, length);
            words = Arrays.copyOf(other.words, wordCount);
        }

        void clear() {
            length = 0;
            wordCount = 0;
        }

        void put(int deed, int value) {
            if (length < deeds.length) {
                deeds[length] = (byte) deed;
                values[length] = (short) value;
                targets[length] = 0;
                length++;
            }
        }

        /** What stands at a place leads to what is put next. */
        void aim(int from) {
            if (from >= 0 && from < length) {
                targets[from] = (short) length;
            }
        }

        /** The WORD is told by the place of its SAY. */
        void putSay(int colour, long word) {
            if (wordCount < words.length) {
                words[wordCount] = word;
                put(SAY, colour);
                if (length > 0) {
                    targets[length - 1] = (short) wordCount;
                }
                wordCount++;
            }
        }
    }

    /** Reads the text of a DRAWING; [ and ( are kept on rows, so that no call goes deeper by them. */
    private static final class DrawingReader {
        private static final int MOST_SIGNS = 3 * (Drawing.MOST_DEEP + 1);

        private final Tokens in;
        final Drawing out = new Drawing();
        private int steps;
        private int parts;
        private final int[] open = new int[Drawing.MOST_DEEP];
        private int openCount;
        private final int[] signs = new int[MOST_SIGNS];
        private int signCount;

        DrawingReader(Tokens in) {
            this.in = in;
        }

        void read() {
            out.clear();
            steps = 0;
            parts = 0;
            openCount = 0;
            // The 41st STEP is a FAULT, so the text ends within these turns.
            for (int turn = 0; turn <= Drawing.MOST_STEPS; turn++) {
                int opened = openCount;
                if (!readStep()) {
                    return;
                }
                if (openCount > opened) {
                    continue;
                }
                closeBrackets();
                if (in.sign() != ';') {
                    if (openCount > 0 || in.kind() != Tokens.END) {
                        in.fail(Tokens.FORM);
                    }
                    return;
                }
                in.advance();
            }
        }

        private boolean readStep() {
            if (in.kind() != Tokens.WORD) {
                return in.fail(Tokens.FORM);
            }
            int name = in.name();
            if (name < Tokens.RECT || name > Tokens.IF) {
                return in.fail(Tokens.UNKNOWN);
            }
            if (steps >= Drawing.MOST_STEPS) {
                return in.fail(Tokens.MANY);
            }
            steps++;
            out.put(Drawing.STEP, 0);
            in.advance();
            switch (name) {
                case Tokens.RECT: return readShape(Drawing.RECT, 4);
                case Tokens.DISC: return readShape(Drawing.DISC, 3);
                case Tokens.SAY: return readSay();
                case Tokens.EACH: return readEach();
                default: return readIf();
            }
        }

        /** The COLOUR, NONE if there is a FAULT. */
        private int readColour() {
            if (in.kind() != Tokens.WHOLE) {
                in.fail(Tokens.FORM);
                return NONE;
            }
            int colour = (int) in.value();
            if (colour >= COLOURS) {
                in.fail(Tokens.ABOVE);
                return NONE;
            }
            in.advance();
            return colour;
        }

        private boolean readShape(int kind, int sums) {
            int colour = readColour();
            if (colour == NONE) {
                return false;
            }
            for (int i = 0; i < sums; i++) {
                if (!readSum()) {
                    return false;
                }
            }
            out.put(kind, colour);
            return true;
        }

        private boolean readSay() {
            int colour = readColour();
            if (colour == NONE) {
                return false;
            }
            if (in.kind() != Tokens.WORD) {
                return in.fail(Tokens.FORM);
            }
            long word = in.value();
            in.advance();
            if (!readSum() || !readSum()) {
                return false;
            }
            out.putSay(colour, word);
            return true;
        }

        private boolean readEach() {
            int name = in.name();
            if (!isVariable(name)) {
                return in.fail(Tokens.FORM);
            }
            in.advance();
            if (in.name() != Tokens.FROM) {
                return in.fail(Tokens.FORM);
            }
            in.advance();
            if (!readSum()) {
                return false;
            }
            if (in.name() != Tokens.TO) {
                return in.fail(Tokens.FORM);
            }
            in.advance();
            return readSum() && openBracket(Drawing.EACH, name - Tokens.FIRST_VAR);
        }

        private boolean readIf() {
            if (!readSum()) {
                return false;
            }
            int sign = in.sign();
            if (sign != '<' && sign != '>' && sign != '=') {
                return in.fail(Tokens.FORM);
            }
            in.advance();
            return readSum() && openBracket(Drawing.IF, sign);
        }

        private boolean openBracket(int deed, int value) {
            if (in.sign() != '[') {
                return in.fail(Tokens.FORM);
            }
            if (openCount >= open.length) {
                return in.fail(Tokens.MANY);
            }
            open[openCount] = out.length;
            openCount++;
            out.put(deed, value);
            in.advance();
            return true;
        }

        private void closeBrackets() {
            while (openCount > 0 && in.sign() == ']') {
                openCount--;
                int from = open[openCount];
                if (from >= 0 && from < out.length && out.deeds[from] == Drawing.EACH) {
                    out.put(Drawing.NEXT, 0);
                    out.targets[out.length - 1] = (short) from;
                }
                out.aim(from);
                in.advance();
            }
        }

        private boolean readSum() {
            signCount = 0;
            int deep = 0;
            for (int turn = 0; turn < MOST_BYTES; turn++) {
                if (in.sign() == '(') {
                    if (deep >= Drawing.MOST_DEEP) {
                        return in.fail(Tokens.MANY);
                    }
                    deep++;
                    holdSign('(');
                    in.advance();
                    continue;
                }
                if (!readPart()) {
                    return false;
                }
                while (deep > 0 && in.sign() == ')') {
                    settleSigns(1);
                    signCount = Math.max(0, signCount - 1);
                    deep--;
                    in.advance();
                }
                int rank = rankOf(in.sign());
                if (rank == 0) {
                    settleSigns(1);
                    return deep == 0 || in.fail(Tokens.FORM);
                }
                settleSigns(rank);
                holdSign(in.sign());
                in.advance();
            }
            return in.fail(Tokens.FORM);
        }

        /** 2 for signs that bind closer, 1 for others between PARTS, 0 for what is none. */
        private static int rankOf(int sign) {
            if (sign == '*' || sign == '/') {
                return 2;
            }
            return sign == '+' || sign == '-' ? 1 : 0;
        }

        private void holdSign(int sign) {
            if (signCount < signs.length) {
                signs[signCount] = sign;
                signCount++;
            }
        }

        private void settleSigns(int rank) {
            while (signCount > 0 && rankOf(signs[signCount - 1]) >= rank) {
                signCount--;
                out.put(Drawing.SIGN, signs[signCount]);
            }
        }

        private static boolean isVariable(int name) {
            return name >= Tokens.FIRST_VAR && name <= Tokens.LAST_VAR;
        }

        private boolean readPart() {
            int name = in.name();
            if (in.kind() != Tokens.WHOLE && in.kind() != Tokens.WORD) {
                return in.fail(Tokens.FORM);
            }
            if (in.kind() == Tokens.WORD && (name < Tokens.FIRST_VAR || name > Tokens.HIGH)) {
                boolean isKept = name >= Tokens.RECT && name <= Tokens.TO;
                return in.fail(isKept ? Tokens.FORM : Tokens.UNKNOWN);
            }
            if (parts >= Drawing.MOST_PARTS) {
                return in.fail(Tokens.MANY);
            }
            parts++;
            if (in.kind() == Tokens.WHOLE) {
                out.put(Drawing.WHOLE, (int) in.value());
            } else if (isVariable(name)) {
                out.put(Drawing.VAR, name - Tokens.FIRST_VAR);
            } else {
                out.put(name == Tokens.WIDE ? Drawing.WIDE : Drawing.HIGH, 0);
            }
            in.advance();
            return true;
        }
    }

    /** What a DRAWING PAINTED on a WALL. */
    private static final class Canvas {
        private static final int MOST_STEPS = 1500;
        private static final int BOUND = 9999;
        /** Far above 1,500 STEPS of 120 PARTS and their signs. */
        private static final int MOST_TURNS = 1000000;
        private static final int MOST_HELD = 32;

        final byte[] cells = new byte[MOST_CELLS];
        int wide;
        int high;
        boolean made;
        int steps;
        boolean spent;
        int shownBars;
        private final long[] bars;
        private int barCount;
        private final boolean[] holes = new boolean[MOST_CELLS];
        private final int[] vars = new int[5];
        private final int[] held = new int[MOST_HELD];
        private int heldCount;
        private final int[] eachNow = new int[Drawing.MOST_DEEP];
        private final int[] eachLast = new int[Drawing.MOST_DEEP];
        private int eachCount;

        Canvas(long[] bars) {
            this.bars = bars;
        }

        void paint(Drawing drawing, Wall wall, int barsNow) {
            if (drawing == null || wall == null) {
                return;
            }
            made = true;
            wide = wall.wide;
            high = wall.high;
            barCount = Math.min(barsNow, bars.length);
            steps = 0;
            spent = false;
            shownBars = 0;
            heldCount = 0;
            eachCount = 0;
            Arrays.fill(vars, 0);
            Arrays.fill(cells, (byte) NONE);
            for (int c = 0; c < wall.holes.length && c < holes.length; c++) {
                holes[c] = wall.holes[c];
            }
            int at = 0;
            for (int turn = 0; turn < MOST_TURNS && !spent && at >= 0 && at < drawing.length; turn++) {
                at = act(drawing, at);
            }
        }

        boolean holds(int x, int y) {
            return x >= 0 && x < wide && y >= 0 && y < high;
        }

        int colourAt(int x, int y) {
            int c = y * wide + x;
            return holds(x, y) && c >= 0 && c < cells.length ? cells[c] : NONE;
        }

        int area(int colour) {
            int found = 0;
            for (int c = 0; c < cells.length; c++) {
                if (cells[c] == colour) {
                    found++;
                }
            }
            return found;
        }

        int painted() {
            return cells.length - area(NONE);
        }

        /** Does one deed: the place of the next. */
        private int act(Drawing d, int at) {
            if (at < 0 || at >= d.length) {
                return at;
            }
            int value = d.values[at];
            switch (d.deeds[at]) {
                case Drawing.STEP: come(); break;
                case Drawing.WHOLE: hold(value); break;
                case Drawing.VAR: hold(value >= 0 && value < vars.length ? vars[value] : 0); break;
                case Drawing.WIDE: hold(wide); break;
                case Drawing.HIGH: hold(high); break;
                case Drawing.SIGN: reckon(value); break;
                case Drawing.RECT: rect(value); break;
                case Drawing.DISC: disc(value); break;
                case Drawing.SAY: say(d, value, d.targets[at]); break;
                case Drawing.EACH: return beginEach(d, at);
                case Drawing.NEXT: return goOn(d, at);
                case Drawing.IF: return compare(value) ? at + 1 : d.targets[at];
                default: break;
            }
            return at + 1;
        }

        private void come() {
            if (steps >= MOST_STEPS) {
                spent = true;
            } else {
                steps++;
            }
        }

        private void hold(int v) {
            if (heldCount < held.length) {
                held[heldCount] = v;
                heldCount++;
            }
        }

        private int release() {
            if (heldCount <= 0) {
                return 0;
            }
            heldCount--;
            return held[heldCount];
        }

        private void reckon(int sign) {
            int b = release();
            int a = release();
            int v;
            switch (sign) {
                case '+': v = a + b; break;
                case '-': v = a - b; break;
                case '*': v = a * b; break;
                default: v = b == 0 ? 0 : a / b; break;
            }
            hold(Math.max(-BOUND, Math.min(BOUND, v)));
        }

        private boolean compare(int sign) {
            int b = release();
            int a = release();
            if (sign == '<') {
                return a < b;
            }
            return sign == '>' ? a > b : a == b;
        }

        private int beginEach(Drawing d, int at) {
            int to = release();
            int from = release();
            if (to < from || eachCount >= eachNow.length) {
                return d.targets[at];
            }
            eachNow[eachCount] = from;
            eachLast[eachCount] = to;
            eachCount++;
            setVar(d.values[at], from);
            return at + 1;
        }

        /** The count is kept beside its VAR: an each within may have changed that. */
        private int goOn(Drawing d, int at) {
            int begin = d.targets[at];
            if (eachCount <= 0 || begin < 0 || begin >= d.length) {
                return at + 1;
            }
            int level = eachCount - 1;
            if (eachNow[level] >= eachLast[level]) {
                eachCount = level;
                return at + 1;
            }
            eachNow[level]++;
            setVar(d.values[begin], eachNow[level]);
            return begin + 1;
        }

        private void setVar(int which, int v) {
            if (which >= 0 && which < vars.length) {
                vars[which] = v;
            }
        }

        private void rect(int colour) {
            int h = release();
            int w = release();
            int y = release();
            int x = release();
            for (int cy = Math.max(0, y); cy < high && cy < y + h; cy++) {
                for (int cx = Math.max(0, x); cx < wide && cx < x + w; cx++) {
                    dot(cx, cy, colour);
                }
            }
        }

        private void disc(int colour) {
            int r = release();
            int y = release();
            int x = release();
            for (int cy = 0; cy < high && r >= 0; cy++) {
                for (int cx = 0; cx < wide; cx++) {
                    if ((cx - x) * (cx - x) + (cy - y) * (cy - y) <= r * r) {
                        dot(cx, cy, colour);
                    }
                }
            }
        }

        private void say(Drawing d, int colour, int which) {
            int y = release();
            int x = release();
            if (which < 0 || which >= d.wordCount) {
                return;
            }
            boolean seen = false;
            long rest = d.words[which];
            for (int i = 0; i < MOST_LETTERS && rest != 0; i++) {
                if (holds(x + i, y)) {
                    dot(x + i, y, colour);
                    seen = true;
                }
                rest >>= 5;
            }
            if (seen) {
                noteShown(d.words[which]);
            }
        }

        private void noteShown(long word) {
            for (int i = 0; i < barCount; i++) {
                if (bars[i] == word) {
                    shownBars |= 1 << i;
                }
            }
        }

        private void dot(int x, int y, int colour) {
            int c = y * wide + x;
            if (c >= 0 && c < cells.length && !holes[c]) {
                cells[c] = (byte) colour;
            }
        }
    }

    /** RIGHTS: their LINES, and how a fee is PARTED by them. */
    private static final class Rights {
        private static final int MOST = 8;
        private static final int MOST_LINES = 8;
        private static final int REST = -1;
        private static final int TOWN = 2;

        private final Tokens in;
        int size;
        // One RIGHT more than there may be: the one that is being read.
        private final int[] lineCounts = new int[MOST + 1];
        private final int[] whos = new int[(MOST + 1) * MOST_LINES];
        private final int[] shares = new int[(MOST + 1) * MOST_LINES];
        private int total;

        Rights(Tokens in) {
            this.in = in;
        }

        void read() {
            if (size > MOST) {
                return;
            }
            lineCounts[size] = 0;
            total = 0;
            // The ninth LINE is a FAULT, so the text ends within these turns.
            for (int turn = 0; turn <= MOST_LINES; turn++) {
                if (!readLine()) {
                    return;
                }
                if (in.sign() != ',') {
                    if (in.kind() != Tokens.END) {
                        in.fail(Tokens.FORM);
                    }
                    return;
                }
                in.advance();
            }
        }

        boolean keep() {
            if (size >= MOST) {
                return false;
            }
            size++;
            return true;
        }

        private boolean readLine() {
            int name = in.name();
            if (in.kind() != Tokens.WORD || name == Tokens.REST) {
                return in.fail(Tokens.FORM);
            }
            if (name < Tokens.FIRST_WHO || name > Tokens.LAST_WHO) {
                return in.fail(Tokens.UNKNOWN);
            }
            if (lineCounts[size] >= MOST_LINES) {
                return in.fail(Tokens.MANY);
            }
            in.advance();
            int who = name - Tokens.FIRST_WHO;
            if (in.name() == Tokens.REST) {
                addLine(who, REST);
                in.advance();
                return true;
            }
            if (in.kind() != Tokens.WHOLE) {
                return in.fail(Tokens.FORM);
            }
            int share = (int) in.value();
            total += share;
            if (total > 100) {
                return in.fail(Tokens.ABOVE);
            }
            in.advance();
            if (in.sign() != '%') {
                return in.fail(Tokens.FORM);
            }
            in.advance();
            addLine(who, share);
            return true;
        }

        private void addLine(int who, int share) {
            int line = size * MOST_LINES + lineCounts[size];
            if (line >= 0 && line < whos.length) {
                whos[line] = who;
                shares[line] = share;
                lineCounts[size]++;
            }
        }

        int shareOf(int right, int fee, int who) {
            if (right < 0 || right >= size || right > MOST) {
                return 0;
            }
            int first = right * MOST_LINES;
            int behind = Math.min(first + lineCounts[right], whos.length);
            int over = fee;
            int rests = 0;
            int mine = 0;
            for (int i = first; i < behind; i++) {
                int part = shares[i] == REST ? 0 : fee * shares[i] / 100;
                over -= part;
                mine += whos[i] == who ? part : 0;
                rests += shares[i] == REST ? 1 : 0;
            }
            if (rests == 0) {
                return who == TOWN ? mine + over : mine;
            }
            int extra = over % rests;
            for (int i = first; i < behind; i++) {
                if (shares[i] == REST) {
                    mine += whos[i] == who ? over / rests + extra : 0;
                    extra = 0;
                }
            }
            return mine;
        }
    }

    /** PAINTERS with WISHES and VOTES. */
    private static final class Painters {
        private static final int MOST_VOTES = 300;

        int size;
        private final int[] styles = new int[MOST_PAINTERS];
        private final int[] kins = new int[MOST_PAINTERS];
        private final int[] begun = new int[MOST_PAINTERS];
        private final int[] wishes = new int[MOST_PAINTERS * MOST_WALLS];
        private final int[] voted = new int[MOST_PAINTERS * MOST_WALLS];
        int voteCount;
        private final int[] voteKeys = new int[MOST_VOTES];
        private final int[] votes = new int[MOST_VOTES];

        boolean has(int painter) {
            return painter >= 0 && painter < size && painter < MOST_PAINTERS;
        }

        int add(int style, int kin) {
            if (size >= MOST_PAINTERS) {
                return NONE;
            }
            styles[size] = style;
            kins[size] = kin;
            size++;
            return size - 1;
        }

        boolean isKin(int painter, int neighbour) {
            return has(painter) && kins[painter] == neighbour;
        }

        int styleOf(int painter) {
            return has(painter) ? styles[painter] : NONE;
        }

        void countWork(int painter) {
            if (has(painter)) {
                begun[painter]++;
            }
        }

        int worksOf(int painter) {
            return has(painter) ? begun[painter] : 0;
        }

        private static int pairOf(int painter, int wall) {
            return painter * MOST_WALLS + wall;
        }

        private boolean isPair(int painter, int wall) {
            return has(painter) && wall >= 0 && wall < MOST_WALLS;
        }

        void setWish(int painter, int wall, int v) {
            if (isPair(painter, wall)) {
                wishes[pairOf(painter, wall)] = v;
            }
        }

        int likedOn(int painter, int wall) {
            if (!isPair(painter, wall)) {
                return 0;
            }
            int pair = pairOf(painter, wall);
            return wishes[pair] * 10 + voted[pair];
        }

        /** False if it would be one VOTE too many. */
        boolean takeVote(int neighbour, int painter, int wall, int v) {
            if (!isPair(painter, wall)) {
                return false;
            }
            int pair = pairOf(painter, wall);
            int key = pair * (LAST_PERSON + 1) + neighbour;
            int at = 0;
            while (at < voteCount && voteKeys[at] != key) {
                at++;
            }
            if (at >= MOST_VOTES) {
                return false;
            }
            if (at == voteCount) {
                voteKeys[at] = key;
                votes[at] = 0;
                voteCount++;
            }
            voted[pair] += v - votes[at];
            votes[at] = v;
            return true;
        }
    }

    /** Finds to whom WALLS are GIVEN, trying PAINTERS in the order that wins among equals. */
    private static final class Giver {
        static final int MOST = 6;
        /** More than all WORKS, so that one LIKED more outweighs them. */
        private static final int WORTH_OF_LIKED = 64;

        private final Walls walls;
        private final Painters painters;
        private final Works works;
        private int wanted;
        private final int[] asked = new int[MOST];
        private int askedCount;
        /** By asked WALL and PAINTER, 0 if it can't be; higher is better, fewer WORKS told in. */
        private final int[] worths = new int[MOST * MOST_PAINTERS];
        /** By asked WALL from which on and PAINTERS used: the most worth, if likes may stand BESIDE. */
        private int[] hopes = new int[0];
        private final int[] tried = new int[MOST];
        private final int[] best = new int[MOST];
        private int bestWorth;
        private final int[] givenTo = new int[MOST_WALLS];

        Giver(Walls walls, Painters painters, Works works) {
            this.walls = walls;
            this.painters = painters;
            this.works = works;
            Arrays.fill(givenTo, NONE);
        }

        boolean areWalls(int bits) {
            return bits > 0 && bits >> walls.size == 0;
        }

        boolean areFree(int bits) {
            for (int i = 0; i < walls.size; i++) {
                Wall w = walls.at(i);
                boolean asksIt = (bits >> i & 1) == 1;
                if (asksIt && w != null && (!w.hasLeave(works.year()) || w.openWork != NOTHING)) {
                    return false;
                }
            }
            return true;
        }

        int painterFor(int wall) {
            return wall >= 0 && wall < givenTo.length ? givenTo[wall] : NONE;
        }

        int giveAll(int bits) {
            wanted = bits;
            askedCount = 0;
            for (int i = 0; i < walls.size && askedCount < MOST; i++) {
                if ((bits >> i & 1) == 1) {
                    asked[askedCount] = i;
                    askedCount++;
                }
            }
            reckonWorths();
            reckonHopes();
            bestWorth = NONE;
            tryFrom(0, 0, 0);
            Arrays.fill(givenTo, NONE);
            for (int i = 0; i < askedCount; i++) {
                int wall = asked[i];
                if (wall >= 0 && wall < givenTo.length) {
                    givenTo[wall] = best[i];
                }
            }
            return (bestWorth + WORTH_OF_LIKED - 1) / WORTH_OF_LIKED;
        }

        private void reckonWorths() {
            for (int i = 0; i < askedCount; i++) {
                for (int p = 0; p < painters.size; p++) {
                    int liked = painters.likedOn(p, asked[i]);
                    boolean can = liked > 0 && !isLikeOutside(asked[i], painters.styleOf(p));
                    worths[i * MOST_PAINTERS + p] = can ? liked * WORTH_OF_LIKED - painters.worksOf(p) : 0;
                }
            }
        }

        private void reckonHopes() {
            int sets = 1 << painters.size;
            int room = (askedCount + 1) * sets;
            if (hopes.length < room) {
                hopes = new int[room];
            }
            Arrays.fill(hopes, 0);
            for (int at = askedCount - 1; at >= 0; at--) {
                for (int used = 0; used < sets; used++) {
                    int most = hopeFrom(at + 1, used);
                    for (int p = 0; p < painters.size; p++) {
                        int worth = worths[at * MOST_PAINTERS + p];
                        if ((used >> p & 1) == 0 && worth > 0) {
                            most = Math.max(most, worth + hopeFrom(at + 1, used | 1 << p));
                        }
                    }
                    hopes[at * sets + used] = most;
                }
            }
        }

        private int hopeFrom(int at, int used) {
            int place = (at << painters.size) + used;
            return place >= 0 && place < hopes.length ? hopes[place] : 0;
        }

        private boolean isLikeOutside(int wall, int style) {
            for (int i = 0; i < walls.size; i++) {
                Wall w = walls.at(i);
                if (w != null && (wanted >> i & 1) == 0 && walls.areBeside(wall, i)
                        && w.latestWork() != NOTHING
                        && painters.styleOf(works.tellOf(w.latestWork(), 1)) == style) {
                    return true;
                }
            }
            return false;
        }

        private boolean isLikeTried(int at, int style) {
            for (int i = 0; i < at; i++) {
                if (tried[i] != NOTHING && painters.styleOf(tried[i]) == style
                        && walls.areBeside(asked[i], asked[at])) {
                    return true;
                }
            }
            return false;
        }

        /** Goes on only where something better can come: equals that come later lose. */
        private void tryFrom(int at, int worth, int used) {
            if (at < 0 || at > askedCount || worth + hopeFrom(at, used) <= bestWorth) {
                return;
            }
            if (at == askedCount) {
                bestWorth = worth;
                System.arraycopy(tried, 0, best, 0, MOST);
                return;
            }
            for (int p = 0; p < painters.size; p++) {
                int here = worths[at * MOST_PAINTERS + p];
                if ((used >> p & 1) == 0 && here > 0 && !isLikeTried(at, painters.styleOf(p))) {
                    tried[at] = p;
                    tryFrom(at + 1, worth + here, used | 1 << p);
                }
            }
            tried[at] = NOTHING;
            tryFrom(at + 1, worth, used);
        }
    }

    /** WORKS, the DAYS into which they are laid, and the TINS that they use. */
    private static final class Works {
        static final int MOST = 40;
        static final int MOST_TINS = 60;
        private static final int CELLS_A_DAY = 24;
        /** GOOD DAYS ahead of the COAT: one for UNDER, two to dry. */
        private static final int COAT_FROM = 3;

        private final Walls walls;
        int size;
        private final int[] wallOf = new int[MOST];
        private final int[] painterOf = new int[MOST];
        private final int[] drawingOf = new int[MOST];
        private final int[] needs = new int[MOST];
        private final int[] did = new int[MOST];
        private final int[] foretold = new int[MOST];
        private final int[] overDays = new int[MOST];
        private final int[] cells = new int[MOST];
        private final int[] lacking = new int[MOST];
        /** 32 DAYS an int, a bit for each that is GOOD. */
        private final int[] goodBits = new int[LAST_DAY / 32 + 1];
        private int lastGood;
        int liftCount;
        int today;
        int tinCount;
        private final int[] tinColours = new int[MOST_TINS];
        final int[] tinLeft = new int[MOST_TINS];

        Works(Walls walls) {
            this.walls = walls;
            liftCount = 2;
            lastGood = NONE;
        }

        int year() {
            return today / DAYS_A_YEAR;
        }

        boolean has(int work) {
            return work >= 0 && work < size && work < MOST;
        }

        int begin(int wall, int painter, int drawing, int painted) {
            Wall w = walls.at(wall);
            if (size >= MOST || w == null) {
                return NONE;
            }
            wallOf[size] = wall;
            painterOf[size] = painter;
            drawingOf[size] = drawing;
            cells[size] = painted;
            needs[size] = COAT_FROM + Math.max(1, (painted + CELLS_A_DAY - 1) / CELLS_A_DAY);
            did[size] = 0;
            overDays[size] = NOTHING;
            lacking[size] = 0;
            w.openWork = size;
            size++;
            return size - 1;
        }

        int tellOf(int work, int what) {
            if (!has(work)) {
                return NONE;
            }
            switch (what) {
                case 0: return wallOf[work];
                case 1: return painterOf[work];
                case 2: return drawingOf[work];
                case 3: return stageOf(work);
                case 4: return needs[work] - did[work];
                case 5: return overDays[work];
                case 6: return cells[work];
                case 7: return lacking[work];
                default: return NONE;
            }
        }

        private int stageOf(int work) {
            if (did[work] == 0) {
                return 0;
            }
            if (did[work] < COAT_FROM) {
                return 1;
            }
            return did[work] < needs[work] ? 2 : 3;
        }

        int overCount() {
            int found = 0;
            for (int i = 0; i < size; i++) {
                if (did[i] >= needs[i]) {
                    found++;
                }
            }
            return found;
        }

        void setDay(int day, boolean isGood) {
            if (day < 0 || day > LAST_DAY) {
                return;
            }
            if (isGood) {
                goodBits[day / 32] |= 1 << day % 32;
                lastGood = Math.max(lastGood, day);
            } else {
                goodBits[day / 32] &= ~(1 << day % 32);
            }
        }

        private boolean isGoodDay(int day) {
            return day >= 0 && day <= LAST_DAY && (goodBits[day / 32] >> day % 32 & 1) == 1;
        }

        /** One GOOD DAY, on a row of the DAYS that each WORK did, be they real or foretold. */
        private void bringOn(int[] done) {
            int free = liftCount;
            for (int i = 0; i < size && i < done.length; i++) {
                if (done[i] >= needs[i]) {
                    continue;
                }
                boolean needsLift = done[i] == 0 || done[i] >= COAT_FROM;
                if (!needsLift) {
                    done[i]++;
                } else if (free > 0) {
                    free--;
                    done[i]++;
                }
            }
        }

        int foretoldEnd(int work) {
            if (!has(work)) {
                return NONE;
            }
            if (did[work] >= needs[work]) {
                return overDays[work];
            }
            System.arraycopy(did, 0, foretold, 0, MOST);
            for (int day = today; day <= lastGood; day++) {
                if (isGoodDay(day)) {
                    bringOn(foretold);
                }
                if (foretold[work] >= needs[work]) {
                    return day;
                }
            }
            return NOTHING;
        }

        int foretoldOver(int last) {
            System.arraycopy(did, 0, foretold, 0, MOST);
            for (int day = today; day <= last && day <= lastGood; day++) {
                if (isGoodDay(day)) {
                    bringOn(foretold);
                }
            }
            int found = 0;
            for (int i = 0; i < size; i++) {
                if (did[i] < needs[i] && foretold[i] >= needs[i]) {
                    found++;
                }
            }
            return found;
        }

        int goBy(int days) {
            int over = 0;
            for (int i = 0; i < days && today < LAST_DAY; i++) {
                if (isGoodDay(today)) {
                    bringOn(did);
                    over += finishDone();
                }
                today++;
            }
            return over;
        }

        private int finishDone() {
            int over = 0;
            for (int i = 0; i < size; i++) {
                if (overDays[i] == NOTHING && did[i] >= needs[i]) {
                    finish(i);
                    over++;
                }
            }
            return over;
        }

        private void finish(int work) {
            overDays[work] = today;
            Wall w = walls.at(wallOf[work]);
            if (w == null) {
                return;
            }
            for (int c = 0; c < w.colours.length; c++) {
                int colour = w.coming[c];
                int tin = colour == NONE ? NOTHING : useTin(colour);
                w.colours[c] = (byte) colour;
                w.tins[c] = (byte) tin;
                if (colour != NONE && tin == NOTHING) {
                    lacking[work]++;
                }
            }
            w.openWork = NOTHING;
            w.overWork = work;
            w.overDay = today;
        }

        boolean isTin(int tin) {
            return tin >= 0 && tin < tinCount && tin < MOST_TINS;
        }

        int addTin(int colour, int forCells) {
            if (tinCount >= MOST_TINS) {
                return NONE;
            }
            tinColours[tinCount] = colour;
            tinLeft[tinCount] = forCells;
            tinCount++;
            return tinCount - 1;
        }

        private int useTin(int colour) {
            for (int t = 0; t < tinCount; t++) {
                if (tinColours[t] == colour && tinLeft[t] > 0) {
                    tinLeft[t]--;
                    return t;
                }
            }
            return NOTHING;
        }
    }

    /** What is done from WALL to WALL: TAGS are CLEANED on ROUNDS, and TRAILS lead over THEMES. */
    private static final class Streets {
        static final int MOST_TAGS = 100;
        static final int MOST_STOPS = 9;
        private static final int MINUTES_A_TAG = 10;
        /** Farther than any way. */
        private static final int FAR = 1000000;

        private final Walls walls;
        int tagCount;
        private final int[] tagWalls = new int[MOST_TAGS];
        private final int[] tagDays = new int[MOST_TAGS];
        private final int[] cleanDays = new int[MOST_TAGS];
        private final int[] stops = new int[MOST_STOPS];
        private int stopCount;
        private int wantedThemes;
        /** By the STOPS that a way is over and the one where it ends. */
        private int[] shortest = new int[0];
        int trailWalls;

        Streets(Walls walls) {
            this.walls = walls;
            trailWalls = NONE;
        }

        boolean isTag(int tag) {
            return tag >= 0 && tag < tagCount && tag < MOST_TAGS;
        }

        int addTag(int wall, int day) {
            if (tagCount >= MOST_TAGS) {
                return NONE;
            }
            tagWalls[tagCount] = wall;
            tagDays[tagCount] = day;
            cleanDays[tagCount] = NONE;
            tagCount++;
            return tagCount - 1;
        }

        boolean cleanTag(int tag, int today) {
            if (!isTag(tag) || cleanDays[tag] != NONE) {
                return false;
            }
            cleanDays[tag] = today;
            return true;
        }

        int lateTags(int today) {
            int found = 0;
            for (int i = 0; i < tagCount; i++) {
                int day = cleanDays[i] == NONE ? today : cleanDays[i];
                if (day > tagDays[i]) {
                    found++;
                }
            }
            return found;
        }

        int goRound(int minutes, int today) {
            int cleaned = 0;
            int free = minutes;
            int stand = 0;
            // Each turn leaves one WALL less with a TAG.
            for (int turn = 0; turn < MOST_WALLS; turn++) {
                int next = mostUrgent(stand);
                if (next == NONE) {
                    return cleaned;
                }
                int takes = walls.way(stand, next) + MINUTES_A_TAG * openTags(next);
                if (takes > free) {
                    return cleaned;
                }
                free -= takes;
                stand = next;
                for (int i = 0; i < tagCount; i++) {
                    if (tagWalls[i] == next && cleanTag(i, today)) {
                        cleaned++;
                    }
                }
            }
            return cleaned;
        }

        private int openTags(int wall) {
            int found = 0;
            for (int i = 0; i < tagCount; i++) {
                if (tagWalls[i] == wall && cleanDays[i] == NONE) {
                    found++;
                }
            }
            return found;
        }

        private int mostUrgent(int stand) {
            int found = NONE;
            int foundDay = 0;
            for (int i = 0; i < tagCount; i++) {
                if (cleanDays[i] != NONE) {
                    continue;
                }
                int wall = tagWalls[i];
                int nearer = Integer.compare(walls.way(stand, wall), walls.way(stand, found));
                if (found == NONE || tagDays[i] < foundDay
                        || tagDays[i] == foundDay && (nearer < 0 || nearer == 0 && wall < found)) {
                    found = wall;
                    foundDay = tagDays[i];
                }
            }
            return found;
        }

        /** How many WALLS have some wanted THEME; the TRAIL leads over these. */
        int findStops(int themes) {
            int found = 0;
            stopCount = 0;
            wantedThemes = 0;
            for (int i = 0; i < walls.size; i++) {
                Wall w = walls.at(i);
                if (w == null || (w.themeBits & themes) == 0) {
                    continue;
                }
                found++;
                wantedThemes |= w.themeBits & themes;
                if (stopCount < MOST_STOPS) {
                    stops[stopCount] = i;
                    stopCount++;
                }
            }
            return found;
        }

        int shortestTrail() {
            int room = (1 << stopCount) * MOST_STOPS;
            if (shortest.length < room) {
                shortest = new int[room];
            }
            int best = 0;
            int bestWay = 0;
            for (int some = 1; some < 1 << stopCount; some++) {
                int way = wayOver(some);
                if ((themesOf(some) & wantedThemes) != wantedThemes) {
                    continue;
                }
                if (best == 0 || way < bestWay || way == bestWay && isAhead(some, best)) {
                    best = some;
                    bestWay = way;
                }
            }
            trailWalls = 0;
            for (int i = 0; i < stopCount; i++) {
                if ((best >> i & 1) == 1) {
                    trailWalls |= 1 << stops[i];
                }
            }
            return bestWay;
        }

        private int themesOf(int some) {
            int themes = 0;
            for (int i = 0; i < stopCount; i++) {
                Wall w = walls.at(stops[i]);
                if (w != null && (some >> i & 1) == 1) {
                    themes |= w.themeBits;
                }
            }
            return themes;
        }

        /** Of as many STOPS the least one that only one side has decides. */
        private static boolean isAhead(int some, int other) {
            int fewer = Integer.compare(Integer.bitCount(some), Integer.bitCount(other));
            int differ = some ^ other;
            return fewer < 0 || fewer == 0 && (some & differ & -differ) != 0;
        }

        /** Rests on the ways over fewer STOPS, which are reckoned ahead of it. */
        private int wayOver(int some) {
            int best = FAR;
            for (int end = 0; end < stopCount; end++) {
                if ((some >> end & 1) == 0) {
                    continue;
                }
                int way = wayTo(some ^ 1 << end, end);
                int at = some * MOST_STOPS + end;
                if (at >= 0 && at < shortest.length) {
                    shortest[at] = way;
                }
                best = Math.min(best, way);
            }
            return best;
        }

        private int wayTo(int before, int end) {
            if (before == 0) {
                return 0;
            }
            int best = FAR;
            for (int i = 0; i < stopCount; i++) {
                int at = before * MOST_STOPS + i;
                if ((before >> i & 1) == 1 && at >= 0 && at < shortest.length) {
                    best = Math.min(best, shortest[at] + walls.way(stops[i], stops[end]));
                }
            }
            return best;
        }
    }
}
