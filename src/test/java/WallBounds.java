/** Promises 1 to 8: walls, holes, leaves, sales, pairs. */
final class WallBounds extends Bounds {
    WallBounds(Check c, Sentences s) {
        super(c, s);
    }

    @Override
    void run() {
        newObject();
        wide();
        high();
        sides();
        owners();
        sixteenWalls();
        numbersAheadOfRoom();
        aboutNoWall();
        aboutNothing();
        aboutLeave();
        aboutWorks();
        holesAtTheEdges();
        holesBeyond();
        holesAgain();
        holesInOrder();
        holesInPaint();
        leaveYears();
        leaveAnew();
        yearsTurn();
        soldCarries();
        soldEnds();
        soldInOrder();
        besideItself();
        besideBothWays();
        minutesRange();
        minutesUntold();
        minutesInOrder();
    }

    private void newObject() {
        s.promise(1, "No WALLS; DAY 0.");
        WallHouse x = new WallHouse();
        for (int what = 0; what <= 11; what++) {
            c.due("count(" + what + ")", x.count(what), 0);
        }
        c.due("about(0, 0)", x.about(0, 0), NONE);
        c.yes("day 0 is still to come", x.weather(0, 10, 0));
        c.due("trouble()", new WallHouse().trouble(), 0);
        x.wall(1, 1, 0, 0);
        c.due("another object has its own", new WallHouse().count(0), 0);
    }

    private void wide() {
        s.term("I", "WIDE 1 .. 16");
        WallHouse x = new WallHouse();
        for (int wide : new int[] {MIN, -1, 0, 17, MAX}) {
            c.refused(x, "wide " + wide, x.wall(wide, 1, 0, 0), 2);
        }
        c.due("wide 1", x.wall(1, 1, 0, 0), 0);
        c.due("wide 16", x.wall(16, 1, 0, 0), 1);
        c.due("about(0, 0)", x.about(0, 0), 1);
        c.due("about(1, 0)", x.about(1, 0), 16);
        c.due("the last cell", x.cell(1, 15, 0), -2);
        c.due("none behind it", x.cell(1, 16, 0), NONE);
    }

    private void high() {
        s.term("I", "HIGH 1 .. 12");
        WallHouse x = new WallHouse();
        for (int high : new int[] {MIN, -1, 0, 13, 16, MAX}) {
            c.refused(x, "high " + high, x.wall(1, high, 0, 0), 2);
        }
        c.due("high 1", x.wall(1, 1, 0, 0), 0);
        c.due("high 12", x.wall(1, 12, 0, 0), 1);
        c.due("about(0, 1)", x.about(0, 1), 1);
        c.due("about(1, 1)", x.about(1, 1), 12);
        c.due("the last cell", x.cell(1, 0, 11), -2);
        c.due("none below it", x.cell(1, 0, 12), NONE);
    }

    private void sides() {
        s.term("II", "a SIDE (0 north, 1 east, 2 south, 3 west)");
        WallHouse x = new WallHouse();
        for (int side : new int[] {MIN, -1, 4, MAX}) {
            c.refused(x, "side " + side, x.wall(1, 1, side, 0), 2);
        }
        for (int side = 0; side < 4; side++) {
            c.due("side " + side, x.wall(1, 1, side, 0), side);
            c.due("about its side", x.about(side, 2), side);
        }
    }

    private void owners() {
        s.term("II", "an OWNER (0 .. 99)");
        WallHouse x = new WallHouse();
        for (int owner : new int[] {MIN, -1, 100, MAX}) {
            c.refused(x, "owner " + owner, x.wall(1, 1, 0, owner), 2);
        }
        x.wall(1, 1, 0, 0);
        x.wall(1, 1, 0, 99);
        c.due("owner 0", x.about(0, 3), 0);
        c.due("owner 99", x.about(1, 3), 99);
        for (int owner : new int[] {MIN, -1, 100, MAX}) {
            c.denied(x, "sold to " + owner, x.sold(1, owner), 2);
            c.due("it has its owner", x.about(1, 3), 99);
        }
        c.yes("sold to 99", x.sold(0, 99));
        c.yes("sold to 0", x.sold(1, 0));
        c.due("about(0, 3)", x.about(0, 3), 99);
        c.due("about(1, 3)", x.about(1, 3), 0);
    }

    private void sixteenWalls() {
        s.term("I", "WALLS 16");
        WallHouse x = new WallHouse();
        for (int i = 0; i < 16; i++) {
            c.due("wall " + i, x.wall(16, 12, 3, 99), i);
            c.due("trouble()", x.trouble(), 0);
        }
        c.refused(x, "a 17th", x.wall(1, 1, 0, 0), 3);
        c.due("count(0)", x.count(0), 16);
        c.due("wall 15 is whole", x.about(15, 0), 16);
        c.due("there is no wall 16", x.about(16, 0), NONE);
        c.yes("leave for wall 15", x.leave(15, 0, 0, false));
        c.due("wall 15 as a bit", x.give(1 << 15), 0);
        c.refused(x, "wall 16 as a bit", x.give(1 << 16), 1);
        c.due("given(15)", x.given(15), -2);
        c.yes("pairs with wall 15", x.beside(0, 15, true) && x.minutes(15, 14, 3));
        c.yes("themes of wall 15", x.themes(15, 512) && x.themes(14, 1));
        c.due("trail over wall 15", x.trail(513), 3);
        c.due("trailOf()", x.trailOf(), 3 << 14);
    }

    private void numbersAheadOfRoom() {
        s.promise(2, "A WALL: its number. NONE: 2; 3.");
        WallHouse x = new WallHouse();
        c.due("the first", x.wall(1, 1, 0, 0), 0);
        c.refused(x, "a wrong one", x.wall(0, 0, 0, 0), 2);
        c.due("a refused one has no number", x.wall(2, 1, 0, 0), 1);
        for (int i = 2; i < 16; i++) {
            x.wall(1, 1, 0, 0);
        }
        c.refused(x, "a number ahead of no room", x.wall(1, 1, 4, 0), 2);
        c.refused(x, "no room", x.wall(1, 1, 3, 0), 3);
    }

    private void aboutNoWall() {
        s.promise(3, "Of a WALL what 0 WIDE");
        WallHouse x = new WallHouse();
        c.due("no wall at all", x.about(0, 0), NONE);
        x.wall(3, 2, 1, 4);
        for (int wall : new int[] {MIN, -1, 1, 15, 16, MAX}) {
            c.due("about(" + wall + ", 0)", x.about(wall, 0), NONE);
        }
    }

    private void aboutNothing() {
        s.promise(3, "9 the latest WORK that is over (-2). NONE.");
        WallHouse x = new WallHouse();
        x.wall(3, 2, 1, 4);
        for (int what : new int[] {MIN, -1, 10, 11, MAX}) {
            c.due("about(0, " + what + ")", x.about(0, what), NONE);
        }
        int[] due = {3, 2, 1, 4, 0, 0, -2, 0, 0, -2};
        for (int what = 0; what < due.length; what++) {
            c.due("about(0, " + what + ")", x.about(0, what), due[what]);
        }
    }

    private void aboutLeave() {
        s.promise(3, "4 whether it has LEAVE THIS YEAR (1)");
        WallHouse x = new WallHouse();
        x.wall(1, 1, 0, 0);
        c.due("none at first", x.about(0, 4), 0);
        x.leave(0, 1, 9, true);
        c.due("of later years", x.about(0, 4), 0);
        x.leave(0, 0, 0, true);
        c.due("of this one", x.about(0, 4), 1);
    }

    private void aboutWorks() {
        s.promise(3, "6 the WORK that isn't over (-2)");
        WallHouse x = dotTown(2);
        x.work(1, 0, 0);
        x.work(0, 0, 0);
        c.due("under way", x.about(0, 6), 1);
        c.due("none is over", x.about(0, 9), -2);
        finish(x);
        c.due("none under way", x.about(0, 6), -2);
        c.due("the latest that is over", x.about(0, 9), 1);
        x.work(0, 0, 0);
        c.due("a later one under way", x.about(0, 6), 2);
        c.due("isn't over", x.about(0, 9), 1);
        finish(x);
        c.due("a later one over", x.about(0, 9), 2);
        c.due("of the other wall", x.about(1, 9), 0);
    }

    private void holesAtTheEdges() {
        s.promise(4, "HOLES of a rectangle (x, y, wide, high, all on the WALL) are cut");
        WallHouse x = new WallHouse();
        x.wall(16, 12, 0, 0);
        int[][] corners = {{0, 0}, {15, 0}, {0, 11}, {15, 11}};
        for (int[] at : corners) {
            c.due("a corner", x.hole(0, at[0], at[1], 1, 1), 1);
        }
        c.due("the last column", x.hole(0, 15, 0, 1, 12), 10);
        c.due("the last row", x.hole(0, 0, 11, 16, 1), 14);
        c.due("all of it", x.hole(0, 0, 0, 16, 12), 192 - 28);
        c.due("about(0, 5)", x.about(0, 5), 192);
        x.wall(1, 1, 0, 0);
        c.due("the only cell", x.hole(1, 0, 0, 1, 1), 1);
    }

    private void holesBeyond() {
        s.promise(4, "all on the WALL");
        int[][] beyond = {{-1, 0, 1, 1}, {0, -1, 1, 1}, {3, 0, 1, 1}, {0, 2, 1, 1}, {0, 0, 4, 1}, {0, 0, 1, 3},
            {1, 0, 3, 1}, {0, 1, 1, 2}, {2, 1, 2, 1}, {2, 1, 1, 2}, {-1, 0, 2, 1}, {0, -1, 1, 2},
            {0, 0, 0, 1}, {0, 0, 1, 0}, {0, 0, -1, 1}, {0, 0, 1, -1}, {2, 1, -1, -1}, {3, 0, 0, 1}, {3, 0, -1, 1},
            {1, 0, MAX, 1}, {0, 1, 1, MAX}, {MAX, 0, 1, 1}, {0, MAX, 1, 1}, {MAX, 0, MAX, 1}, {0, MAX, 1, MAX},
            {MIN, 0, MIN, 1}, {0, MIN, 1, MIN}, {1, 1, MIN, MIN}};
        WallHouse x = new WallHouse();
        x.wall(3, 2, 0, 0);
        for (int[] h : beyond) {
            String call = "hole(0, " + h[0] + ", " + h[1] + ", " + h[2] + ", " + h[3] + ")";
            c.refused(x, call, x.hole(0, h[0], h[1], h[2], h[3]), 2);
        }
        c.due("none was cut", x.about(0, 5), 0);
    }

    private void holesAgain() {
        s.promise(4, "how many CELLS more");
        WallHouse x = new WallHouse();
        x.wall(4, 3, 0, 0);
        c.due("new ones", x.hole(0, 1, 1, 2, 1), 2);
        c.due("again", x.hole(0, 1, 1, 2, 1), 0);
        c.due("trouble() of none more", x.trouble(), 0);
        c.due("over them", x.hole(0, 0, 1, 4, 1), 2);
        c.due("about(0, 5)", x.about(0, 5), 4);
    }

    private void holesInOrder() {
        s.promise(4, "NONE: 1; 2; 5 (a WORK that isn't over).");
        WallHouse x = dotTown(1);
        for (int wall : new int[] {MIN, -1, 1, 16, MAX}) {
            c.refused(x, "1 ahead of 2", x.hole(wall, -1, -1, 0, 0), 1);
        }
        x.work(0, 0, 0);
        c.refused(x, "2 ahead of 5", x.hole(0, 1, 0, 1, 1), 2);
        c.refused(x, "5", x.hole(0, 0, 0, 1, 1), 5);
        c.due("none was cut", x.about(0, 5), 0);
        finish(x);
        c.due("once it is over", x.hole(0, 0, 0, 1, 1), 1);
        x.work(0, 0, 0);
        c.refused(x, "5 for no cell more, too", x.hole(0, 0, 0, 1, 1), 5);
    }

    private void holesInPaint() {
        s.term("II", "HOLES: CELLS (y * WIDE + x) that aren't painted.");
        WallHouse x = Check.town(3, 2, 0);
        x.hole(0, 2, 0, 1, 1);
        Check.draw(x, "rect 6 0 0 wide high");
        c.due("five are left", x.sketch(0, 0), 5);
        c.due("the hole", x.sketched(2, 0), -2);
        c.due("the cell behind it", x.sketched(0, 1), 6);
        x.work(0, 0, 0);
        finish(x);
        c.due("painted ones", x.about(0, 8), 5);
        x.hole(0, 1, 1, 2, 1);
        c.due("two were painted", x.about(0, 8), 3);
        c.due("a hole in paint is bare", x.cell(0, 1, 1), -2);
        c.due("beside it", x.cell(0, 0, 1), 6);
        x.hole(0, 0, 0, 3, 2);
        c.due("none is left", x.about(0, 8), 0);
        c.due("the work was over all the same", x.about(0, 9), 0);
    }

    private void leaveYears() {
        s.promise(5, "LEAVE for YEARS from .. to; whether it CARRIES: true; false: 1; 2.");
        WallHouse x = new WallHouse();
        c.denied(x, "no wall", x.leave(0, 0, 9, true), 1);
        x.wall(1, 1, 0, 0);
        for (int wall : new int[] {MIN, -1, 1, 16, MAX}) {
            c.denied(x, "1 ahead of 2", x.leave(wall, -1, 10, true), 1);
        }
        int[][] wrong = {{-1, 0}, {-1, -1}, {0, 10}, {10, 10}, {1, 0}, {9, 8}, {MIN, 9}, {0, MAX}, {MAX, MIN}, {0, -1}};
        for (int[] years : wrong) {
            c.denied(x, "leave " + years[0] + " .. " + years[1], x.leave(0, years[0], years[1], true), 2);
            c.due("none comes of it", x.about(0, 4), 0);
        }
        c.yes("one year, the first", x.leave(0, 0, 0, true));
        c.due("trouble()", x.trouble(), 0);
        c.yes("one year, the last", x.leave(0, 9, 9, true));
        c.due("the last isn't this one", x.about(0, 4), 0);
        c.yes("all years", x.leave(0, 0, 9, false));
        c.due("about(0, 4)", x.about(0, 4), 1);
    }

    private void leaveAnew() {
        s.term("II", "LEAVE for YEARS from one to another one (0 .. 9; none at first)");
        WallHouse x = new WallHouse();
        x.wall(1, 1, 0, 0);
        x.wall(1, 1, 0, 0);
        c.due("none at first", x.about(0, 4), 0);
        x.leave(0, 0, 2, true);
        c.due("of this wall alone", x.about(1, 4), 0);
        x.leave(0, 1, 2, false);
        c.due("told anew it is another", x.about(0, 4), 0);
        x.leave(0, 0, 9, true);
        c.denied(x, "a wrong one", x.leave(0, 5, 4, false), 2);
        x.sold(0, 1);
        c.due("leaves what was told", x.about(0, 4), 1);
    }

    private void yearsTurn() {
        s.term("I", "DAYS 0 .. 3,649, 365 a YEAR (TODAY 0 at first)");
        WallHouse x = new WallHouse();
        for (int year = 0; year < 10; year++) {
            x.wall(1, 1, 0, 0);
            x.leave(year, year, year, true);
        }
        for (int year = 0; year < 10; year++) {
            Check.passTo(x, 365 * year);
            c.due("the first day of year " + year, x.about(year, 4), 1);
            c.due("of the year ahead", year == 0 ? 0 : x.about(year - 1, 4), 0);
            Check.passTo(x, 365 * year + 364);
            c.due("the last day of year " + year, x.about(year, 4), 1);
            c.due("of the year behind", year == 9 ? 0 : x.about(year + 1, 4), 0);
        }
        c.due("the last day of all", x.count(9), 3649);
    }

    private void soldCarries() {
        s.term("II", "LEAVE stays if it was told to CARRY");
        WallHouse x = new WallHouse();
        x.wall(1, 1, 0, 5);
        x.leave(0, 0, 1, true);
        x.sold(0, 6);
        c.due("sold once", x.about(0, 4), 1);
        x.sold(0, 7);
        c.due("sold twice", x.about(0, 4), 1);
        Check.passTo(x, 729);
        c.due("its last day", x.about(0, 4), 1);
        x.pass(1);
        c.due("no longer than told", x.about(0, 4), 0);
        x.leave(0, 2, 9, false);
        x.leave(0, 2, 9, true);
        x.sold(0, 8);
        c.due("as it was told last", x.about(0, 4), 1);
    }

    private void soldEnds() {
        s.term("II", "else there is none from THIS YEAR on");
        WallHouse x = new WallHouse();
        x.wall(1, 1, 0, 5);
        x.wall(1, 1, 0, 5);
        c.yes("sold without leave", x.sold(0, 6));
        c.due("none", x.about(0, 4), 0);
        x.leave(0, 0, 9, false);
        x.leave(1, 1, 9, false);
        x.sold(0, 7);
        x.sold(1, 7);
        c.due("not this year", x.about(0, 4), 0);
        Check.passTo(x, 365);
        c.due("nor later", x.about(0, 4), 0);
        c.due("nor what was still to come", x.about(1, 4), 0);
        x.leave(0, 0, 9, true);
        c.due("told anew", x.about(0, 4), 1);
        x.sold(0, 8);
        c.due("as told anew", x.about(0, 4), 1);
    }

    private void soldInOrder() {
        s.promise(6, "SOLD: true; false: 1; 2.");
        WallHouse x = new WallHouse();
        c.denied(x, "no wall", x.sold(0, 0), 1);
        x.wall(1, 1, 0, 5);
        x.leave(0, 0, 9, false);
        for (int wall : new int[] {MIN, -1, 1, 16, MAX}) {
            c.denied(x, "1 ahead of 2", x.sold(wall, 100), 1);
        }
        c.denied(x, "2", x.sold(0, 100), 2);
        c.due("a refused sale leaves the owner", x.about(0, 3), 5);
        c.due("and the leave", x.about(0, 4), 1);
        c.yes("sold", x.sold(0, 0));
        c.due("trouble()", x.trouble(), 0);
    }

    private void besideItself() {
        s.promise(7, "false (1: also one and itself)");
        WallHouse x = new WallHouse();
        c.denied(x, "no wall", x.beside(0, 0, true), 1);
        x.wall(1, 1, 0, 0);
        x.wall(1, 1, 0, 0);
        for (int wall = 0; wall < 2; wall++) {
            c.denied(x, "itself", x.beside(wall, wall, true), 1);
            c.denied(x, "not itself", x.beside(wall, wall, false), 1);
        }
        for (int wall : new int[] {MIN, -1, 2, 16, 32, MAX}) {
            c.denied(x, "the other " + wall, x.beside(0, wall, true), 1);
            c.denied(x, "the one " + wall, x.beside(wall, 0, false), 1);
        }
        c.yes("two", x.beside(0, 1, true));
        c.due("trouble()", x.trouble(), 0);
    }

    private void besideBothWays() {
        s.term("II", "BESIDE: pairs of WALLS told so.");
        WallHouse x = Check.openTown(3, 0);
        x.painter(2, 99);
        x.painter(2, 99);
        for (int w = 0; w < 3; w++) {
            x.wish(0, w, 9);
            x.wish(1, w, 8);
        }
        c.due("none at first", x.give(3), 170);
        x.beside(1, 0, true);
        c.due("told the other way", x.give(3), 90);
        c.due("others aren't", x.give(6), 170);
        x.beside(1, 0, true);
        x.beside(0, 1, false);
        c.due("told not, once and the other way", x.give(3), 170);
        x.beside(0, 1, false);
        c.due("told not again", x.give(3), 170);
        Check.draw(x, DOT);
        x.work(0, 0, 0);
        x.work(2, 0, 0);
        c.due("nor for the other one alone", x.give(2), 90);
        x.beside(1, 2, true);
        c.due("told of the one", x.give(2), 0);
        x.beside(1, 2, false);
        c.due("told not of it", x.give(2), 90);
        x.beside(2, 1, true);
        c.due("told of the other", x.give(2), 0);
        x.beside(2, 1, false);
        c.due("told not of that", x.give(2), 90);
        x.beside(0, 1, true);
        c.due("told of wall 0", x.give(2), 0);
        x.beside(0, 1, false);
        c.due("told not of wall 0", x.give(2), 90);
        x.beside(1, 0, true);
        c.due("told of it the other way", x.give(2), 0);
        x.beside(1, 0, false);
        c.due("told not of it the other way", x.give(2), 90);
    }

    private void minutesRange() {
        s.term("II", "MINUTES between two WALLS (1 .. 120, both ways; 60 until told)");
        WallHouse x = new WallHouse();
        x.wall(1, 1, 0, 0);
        x.wall(1, 1, 0, 0);
        x.themes(0, 1);
        x.themes(1, 2);
        c.due("60 until told", x.trail(3), 60);
        for (int v : new int[] {MIN, -1, 0, 121, MAX}) {
            c.denied(x, "minutes " + v, x.minutes(0, 1, v), 2);
            c.due("it stays", x.trail(3), 60);
        }
        c.yes("120", x.minutes(1, 0, 120));
        c.due("trouble()", x.trouble(), 0);
        c.due("the way of 120", x.trail(3), 120);
        c.yes("1", x.minutes(0, 1, 1));
        c.due("the way of 1", x.trail(3), 1);
    }

    private void minutesUntold() {
        s.term("II", "both ways");
        WallHouse x = new WallHouse();
        for (int i = 0; i < 3; i++) {
            x.wall(1, 1, 0, 0);
        }
        x.minutes(2, 0, 7);
        x.tag(2, 1);
        x.tag(1, 2);
        c.due("16 aren't enough", x.round(16), 0);
        c.due("there by 7", x.round(17 + 69), 1);
        x.tag(2, 1);
        c.due("on by 60", x.round(17 + 70), 2);
    }

    private void minutesInOrder() {
        s.promise(8, "MINUTES between two WALLS: true; false: 1; 2.");
        WallHouse x = new WallHouse();
        c.denied(x, "no wall", x.minutes(0, 1, 5), 1);
        x.wall(1, 1, 0, 0);
        x.wall(1, 1, 0, 0);
        for (int wall : new int[] {MIN, -1, 2, 16, MAX}) {
            c.denied(x, "1 ahead of 2", x.minutes(0, wall, 0), 1);
            c.denied(x, "1 ahead of 2, the other way", x.minutes(wall, 0, 121), 1);
        }
        c.denied(x, "2", x.minutes(0, 1, 0), 2);
        c.yes("two", x.minutes(0, 1, 60));
    }
}
