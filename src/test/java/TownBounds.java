/** Promises 37 to 48: tags, rounds, trails, shares of rights, led, counts, trouble. */
final class TownBounds extends Bounds {
    TownBounds(Check c, Sentences s) {
        super(c, s);
    }

    @Override
    void run() {
        tagRange();
        tagInOrder();
        hundredTags();
        cleanInOrder();
        lateDays();
        lateCleaned();
        roundRange();
        roundWays();
        roundOrder();
        roundNearest();
        roundEnds();
        roundFull();
        themeRange();
        trailRange();
        trailNone();
        trailMany();
        trailOneWall();
        trailUnwanted();
        trailShortest();
        trailFewest();
        trailSorted();
        trailOfStays();
        getsInOrder();
        getsRange();
        getsDownwards();
        getsRests();
        getsNoRest();
        ledOthers();
        ledTins();
        showsOthers();
        showsNow();
        countOthers();
        troubleAtFirst();
        troubleNumbers();
    }

    // ---- tags

    private void tagRange() {
        s.term("VI", "to be CLEANED within so many DAYS (1 .. 30)");
        WallHouse x = new WallHouse();
        x.wall(1, 1, 0, 0);
        for (int within : new int[] {MIN, -1, 0, 31, MAX}) {
            c.refused(x, "within " + within, x.tag(0, within), 2);
        }
        c.due("none came", x.count(7), 0);
        c.due("1", x.tag(0, 1), 0);
        c.due("trouble()", x.trouble(), 0);
        c.due("30", x.tag(0, 30), 1);
        x.pass(2);
        c.due("the one of 1", x.late(), 1);
        x.pass(28);
        c.due("day 30", x.late(), 1);
        x.pass(1);
        c.due("day 31", x.late(), 2);
    }

    private void tagInOrder() {
        s.promise(37, "A TAG: its number. NONE: 1; 2; 3.");
        WallHouse x = new WallHouse();
        c.refused(x, "no wall", x.tag(0, 5), 1);
        x.wall(1, 1, 0, 0);
        for (int wall : new int[] {MIN, -1, 1, 16, MAX}) {
            c.refused(x, "1 ahead of 2", x.tag(wall, 0), 1);
        }
        c.due("the first", x.tag(0, 5), 0);
        c.refused(x, "2", x.tag(0, 0), 2);
        c.due("a refused one has no number", x.tag(0, 5), 1);
    }

    private void hundredTags() {
        s.term("I", "TAGS 100");
        WallHouse x = new WallHouse();
        x.wall(1, 1, 0, 0);
        for (int i = 0; i < 100; i++) {
            c.due("tag " + i, x.tag(0, 1), i);
        }
        c.refused(x, "a 101st", x.tag(0, 1), 3);
        c.refused(x, "1 ahead of 3", x.tag(1, 1), 1);
        c.refused(x, "2 ahead of 3", x.tag(0, 31), 2);
        c.due("count(7)", x.count(7), 100);
        c.yes("the last is cleaned", x.clean(99));
        c.denied(x, "there is none of 100", x.clean(100), 1);
        c.refused(x, "cleaned ones count, too", x.tag(0, 1), 3);
        x.pass(2);
        c.due("99 are late", x.late(), 99);
        c.due("too many for a round", x.round(600), 0);
        WallHouse y = new WallHouse();
        y.wall(1, 1, 0, 0);
        y.wall(1, 1, 0, 0);
        y.minutes(0, 1, 1);
        for (int i = 0; i < 100; i++) {
            y.tag(i < 59 ? 1 : 0, i < 59 ? 1 : 2);
        }
        c.due("59 and their way, no time for 41", y.round(600), 59);
        c.due("the 41", y.round(410), 41);
        c.due("all hundred are clean", y.round(600), 0);
        y.pass(10);
        c.due("none is late", y.late(), 0);
    }

    private void cleanInOrder() {
        s.promise(38, "A TAG is CLEANED: true; false: 1; 5.");
        WallHouse x = new WallHouse();
        c.denied(x, "no tag", x.clean(0), 1);
        x.wall(1, 1, 0, 0);
        x.tag(0, 5);
        for (int tag : new int[] {MIN, -1, 1, 100, MAX}) {
            c.denied(x, "clean(" + tag + ")", x.clean(tag), 1);
        }
        c.yes("cleaned", x.clean(0));
        c.due("trouble()", x.trouble(), 0);
        s.term("VIII", "CLEANED already");
        c.denied(x, "again", x.clean(0), 5);
        x.pass(1);
        c.denied(x, "on another day", x.clean(0), 5);
        x.tag(0, 5);
        x.round(10);
        c.denied(x, "by a round", x.clean(1), 5);
    }

    private void lateDays() {
        s.term("VI", "LATE: not CLEANED by then.");
        WallHouse x = new WallHouse();
        x.wall(1, 1, 0, 0);
        c.due("no tag", x.late(), 0);
        x.pass(10);
        x.tag(0, 3);
        int[] due = {0, 0, 0, 0, 1, 1};
        for (int day = 0; day < due.length; day++) {
            c.due("behind " + day + " days", x.late(), due[day]);
            x.pass(1);
        }
        WallHouse y = new WallHouse();
        y.wall(1, 1, 0, 0);
        Check.passTo(y, 3648);
        y.tag(0, 30);
        y.tag(0, 1);
        y.pass(1);
        c.due("none by the last day", y.late(), 0);
    }

    private void lateCleaned() {
        s.promise(39, "How many TAGS are LATE (not CLEANED, or CLEANED too late).");
        WallHouse x = new WallHouse();
        x.wall(1, 1, 0, 0);
        for (int i = 0; i < 4; i++) {
            x.tag(0, 2);
        }
        x.clean(0);
        x.pass(2);
        x.clean(1);
        x.pass(1);
        c.due("two aren't cleaned", x.late(), 2);
        x.clean(2);
        c.due("one is cleaned too late", x.late(), 2);
        x.pass(50);
        c.due("those in time stay so", x.late(), 2);
        x.round(10);
        c.due("by a round, too late", x.late(), 2);
    }

    // ---- rounds

    private void roundRange() {
        s.promise(40, "A ROUND TODAY in so many MINUTES (0 .. 600)");
        WallHouse x = new WallHouse();
        for (int minutes : new int[] {MIN, -1, 601, MAX}) {
            c.refused(x, "2 ahead of 1", x.round(minutes), 2);
        }
        s.promise(40, "NONE: 2; 1 (no WALL 0).");
        c.refused(x, "no wall 0", x.round(0), 1);
        c.refused(x, "no wall 0", x.round(600), 1);
        x.wall(1, 1, 0, 0);
        c.due("0 minutes", x.round(0), 0);
        c.due("trouble()", x.trouble(), 0);
        c.due("600 minutes", x.round(600), 0);
        for (int minutes : new int[] {MIN, -1, 601, MAX}) {
            c.refused(x, "round(" + minutes + ")", x.round(minutes), 2);
        }
        x.tag(0, 5);
        c.refused(x, "a refused one", x.round(601), 2);
        c.yes("cleans none", x.clean(0));
    }

    private void roundWays() {
        s.term("VI", "the way, then 10 MINUTES a TAG (all of the WALL's); as long as that fits");
        WallHouse x = new WallHouse();
        x.wall(1, 1, 0, 0);
        x.wall(1, 1, 0, 0);
        x.tag(0, 5);
        c.due("no way to wall 0: 9", x.round(9), 0);
        c.due("10", x.round(10), 1);
        x.tag(1, 5);
        c.due("69", x.round(69), 0);
        c.due("60 and 10", x.round(70), 1);
        x.minutes(1, 0, 1);
        x.tag(1, 5);
        x.tag(1, 30);
        x.tag(1, 7);
        c.due("30", x.round(30), 0);
        c.due("1 and 3 times 10", x.round(31), 3);
        x.tag(0, 1);
        x.tag(1, 2);
        c.due("one after the other: 20", x.round(20), 1);
        x.tag(0, 1);
        c.due("one after the other: 21", x.round(21), 2);
    }

    private void roundOrder() {
        s.term("VI", "to the WALL with a TAG with the least DAY by which it must be CLEANED");
        WallHouse x = new WallHouse();
        for (int i = 0; i < 3; i++) {
            x.wall(1, 1, 0, 0);
        }
        x.minutes(0, 1, 1);
        x.tag(1, 9);
        x.tag(2, 8);
        c.due("the far one first", x.round(70), 1);
        c.denied(x, "wall 2", x.clean(1), 5);
        x.pass(3);
        x.tag(2, 5);
        c.due("by the day, not by the days from now", x.round(70), 1);
        c.denied(x, "wall 2 again", x.clean(2), 5);
        x.tag(2, 1);
        x.clean(3);
        c.due("a cleaned one is nothing to it", x.round(11), 1);
        c.denied(x, "wall 1", x.clean(0), 5);
        x.tag(2, 20);
        x.tag(1, 10);
        x.tag(2, 3);
        c.due("a wall has its least", x.round(80), 2);
        c.yes("wall 1 is left", x.clean(5));
    }

    private void roundNearest() {
        s.term("VI", "(of as little the nearest from where it stands, then the least number)");
        WallHouse x = new WallHouse();
        for (int i = 0; i < 4; i++) {
            x.wall(1, 1, 0, 0);
        }
        for (int wall = 3; wall >= 1; wall--) {
            x.tag(wall, 5);
        }
        x.minutes(0, 2, 59);
        c.due("the nearest", x.round(69), 1);
        c.denied(x, "wall 2", x.clean(1), 5);
        c.due("the least number", x.round(70), 1);
        c.denied(x, "wall 1", x.clean(2), 5);
        c.yes("wall 3 is left", x.clean(0));
        x.tag(1, 5);
        x.tag(2, 5);
        x.tag(3, 5);
        x.minutes(2, 3, 1);
        c.due("from where it stands", x.round(59 + 10 + 1 + 10), 2);
        c.denied(x, "wall 3", x.clean(5), 5);
        x.tag(0, 5);
        x.tag(2, 5);
        c.due("where it stands is nearest", x.round(10), 1);
        c.denied(x, "wall 0", x.clean(6), 5);
        WallHouse y = new WallHouse();
        for (int i = 0; i < 4; i++) {
            y.wall(1, 1, 0, 0);
        }
        for (int wall = 1; wall <= 3; wall++) {
            y.tag(wall, 5);
        }
        c.due("the least number, told first", y.round(70), 1);
        c.denied(y, "wall 1", y.clean(0), 5);
        c.yes("walls 2 and 3 are left", y.clean(1) && y.clean(2));
    }

    private void roundEnds() {
        s.term("VI", "else it ends");
        WallHouse x = new WallHouse();
        for (int i = 0; i < 3; i++) {
            x.wall(1, 1, 0, 0);
        }
        x.minutes(0, 2, 1);
        x.tag(1, 1);
        x.tag(2, 2);
        x.tag(0, 2);
        c.due("it doesn't go on to what would fit", x.round(60), 0);
        x.tag(0, 1);
        c.due("what was done stays", x.round(79), 2);
        c.denied(x, "wall 0's own", x.clean(3), 5);
        c.denied(x, "all of wall 0's", x.clean(2), 5);
        c.yes("wall 1 is left", x.clean(0));
    }

    private void roundFull() {
        s.promise(40, "how many TAGS it CLEANED");
        WallHouse x = new WallHouse();
        for (int i = 0; i < 16; i++) {
            x.wall(1, 1, 0, 0);
            for (int other = 0; other < i; other++) {
                x.minutes(i, other, 1);
            }
            x.tag(i, 30 - i);
        }
        c.due("all sixteen: a minute short", x.round(16 * 10 + 15), 15);
        c.due("wall 0 alone is left", x.round(10), 1);
        for (int i = 0; i < 16; i++) {
            x.tag(i, 30 - i);
        }
        c.due("all sixteen", x.round(16 * 10 + 16), 16);
        for (int i = 0; i < 60; i++) {
            x.tag(0, 5);
        }
        c.due("sixty of one wall: 599", x.round(599), 0);
        c.due("sixty of one wall: 600", x.round(600), 60);
    }

    // ---- trails

    private void themeRange() {
        s.promise(41, "THEMES of a WALL become these (as bits of 10): true; false: 1; 2.");
        WallHouse x = new WallHouse();
        c.denied(x, "no wall", x.themes(0, 1), 1);
        x.wall(1, 1, 0, 0);
        for (int wall : new int[] {MIN, -1, 1, 16, MAX}) {
            c.denied(x, "1 ahead of 2", x.themes(wall, 1024), 1);
        }
        s.term("I", "THEMES 10");
        c.yes("all ten", x.themes(0, 1023));
        c.due("trouble()", x.trouble(), 0);
        for (int themes : new int[] {MIN, -1, 1024, 1025, MAX}) {
            c.denied(x, "themes " + themes, x.themes(0, themes), 2);
            c.due("they stay", x.about(0, 7), 1023);
        }
        c.yes("the last", x.themes(0, 512));
        c.due("in place of what was", x.about(0, 7), 512);
        c.yes("none", x.themes(0, 0));
        c.due("about(0, 7)", x.about(0, 7), 0);
    }

    private void trailRange() {
        s.promise(42, "NONE: 2; 6 (more than 9 WALLS)");
        WallHouse x = new WallHouse();
        for (int themes : new int[] {MIN, -1, 1024, MAX}) {
            c.refused(x, "trail(" + themes + ")", x.trail(themes), 2);
        }
        for (int i = 0; i < 10; i++) {
            x.wall(1, 1, 0, 0);
            x.themes(i, 1);
        }
        c.refused(x, "2 ahead of 6", x.trail(1025), 2);
        c.refused(x, "6", x.trail(1), 6);
        x.themes(9, 2);
        c.due("nine", x.trail(1), 0);
        c.due("trouble()", x.trouble(), 0);
        c.due("all ten themes", x.trail(512), -2);
    }

    private void trailNone() {
        s.promise(42, "-2 if no WALL has any");
        WallHouse x = new WallHouse();
        c.due("no wall", x.trail(1023), -2);
        c.due("isn't refused", x.trouble(), 0);
        x.wall(1, 1, 0, 0);
        c.due("no theme", x.trail(1023), -2);
        x.themes(0, 5);
        c.due("others", x.trail(1018), -2);
        c.due("none wanted", x.trail(0), -2);
        c.due("one of them", x.trail(1022), 0);
    }

    private void trailMany() {
        s.term("VI", "(of up to 9 with some wanted THEME)");
        WallHouse x = new WallHouse();
        for (int i = 0; i < 16; i++) {
            x.wall(1, 1, 0, 0);
            x.themes(i, i < 9 ? 1 << i : 512);
            if (i > 0) {
                x.minutes(i - 1, i, 2);
            }
        }
        c.due("over nine", x.trail(511), 16);
        c.due("trailOf()", x.trailOf(), 511);
        c.refused(x, "sixteen", x.trail(1023), 6);
        c.due("seven others", x.trail(512), 0);
        c.due("trailOf()", x.trailOf(), 512);
        c.refused(x, "ten, one theme of all", x.trail(512 | 1 | 2 | 4), 6);
        c.due("seven and two", x.trail(512 | 1 | 128), 62 + 60 - 2);
    }

    private void trailOneWall() {
        s.term("VI", "0 over one WALL");
        WallHouse x = new WallHouse();
        for (int i = 0; i < 3; i++) {
            x.wall(1, 1, 0, 0);
            x.themes(i, 1 + i);
        }
        c.due("one of them has all", x.trail(3), 0);
        c.due("trailOf()", x.trailOf(), 4);
        x.themes(2, 0);
        c.due("two have", x.trail(3), 60);
        c.due("trailOf()", x.trailOf(), 3);
    }

    private void trailUnwanted() {
        s.term("VI", "(those on no WALL aren't wanted)");
        WallHouse x = new WallHouse();
        x.wall(1, 1, 0, 0);
        x.wall(1, 1, 0, 0);
        x.themes(0, 1);
        c.due("one of ten", x.trail(1023), 0);
        c.due("trailOf()", x.trailOf(), 1);
        x.themes(1, 512);
        c.due("two of ten", x.trail(1023), 60);
        x.themes(1, 513);
        c.due("wanted ones alone", x.trail(1), 0);
        c.due("the lesser number", x.trailOf(), 1);
    }

    private void trailShortest() {
        s.term("VI", "the shortest way over some WALLS");
        WallHouse x = new WallHouse();
        for (int i = 0; i < 4; i++) {
            x.wall(1, 1, 0, 0);
            x.themes(i, 1 << i);
        }
        x.minutes(0, 2, 1);
        x.minutes(2, 1, 2);
        x.minutes(1, 3, 3);
        c.due("beginning and ending anywhere", x.trail(15), 6);
        c.due("trailOf()", x.trailOf(), 15);
        c.due("three of them", x.trail(7), 3);
        x.themes(2, 0);
        c.due("by their own minutes, not over others", x.trail(11), 63);
        x.minutes(0, 1, 120);
        c.due("the longest left out", x.trail(11), 63);
        x.minutes(0, 3, 120);
        c.due("it can't be", x.trail(11), 123);
        for (int middle = 0; middle < 3; middle++) {
            WallHouse y = new WallHouse();
            for (int i = 0; i < 3; i++) {
                y.wall(1, 1, 0, 0);
                y.themes(i, 1 << i);
            }
            y.minutes(middle, (middle + 1) % 3, 1);
            y.minutes(middle, (middle + 2) % 3, 2);
            c.due("wall " + middle + " between the others", y.trail(7), 3);
        }
    }

    private void trailFewest() {
        s.term("VI", "of as short ones with the fewest WALLS");
        WallHouse x = new WallHouse();
        for (int i = 0; i < 3; i++) {
            x.wall(1, 1, 0, 0);
        }
        x.themes(0, 1);
        x.themes(1, 1);
        x.themes(2, 2);
        x.minutes(0, 1, 1);
        x.minutes(1, 2, 4);
        x.minutes(0, 2, 5);
        c.due("the shorter", x.trail(3), 4);
        c.due("trailOf()", x.trailOf(), 6);
        x.themes(0, 5);
        c.due("as short over two as over three", x.trail(7), 5);
        c.due("two", x.trailOf(), 5);
        x.minutes(0, 2, 6);
        c.due("shorter over three", x.trail(7), 5);
        c.due("three", x.trailOf(), 7);
        // The fewest may have the higher numbers, and a lesser number doesn't make up for one WALL more.
        WallHouse y = new WallHouse();
        for (int i = 0; i < 5; i++) {
            y.wall(1, 1, 0, 0);
        }
        y.themes(0, 1);
        y.themes(1, 2);
        y.themes(2, 4);
        y.themes(3, 3);
        y.themes(4, 4);
        y.minutes(0, 1, 5);
        y.minutes(1, 2, 5);
        y.minutes(3, 4, 10);
        c.due("as short over the last two as over the first three", y.trail(7), 10);
        c.due("the last two", y.trailOf(), 24);
        y.minutes(3, 4, 11);
        c.due("shorter over the first three", y.trail(7), 10);
        c.due("the first three", y.trailOf(), 7);
    }

    private void trailSorted() {
        s.term("VI", "then the lesser number where they first differ, sorted");
        WallHouse x = new WallHouse();
        for (int i = 0; i < 4; i++) {
            x.wall(1, 1, 0, 0);
        }
        x.themes(0, 1);
        x.themes(1, 2);
        x.themes(2, 2);
        x.themes(3, 1);
        c.due("all as far", x.trail(3), 60);
        c.due("0 and 1", x.trailOf(), 3);
        x.minutes(0, 1, 61);
        x.trail(3);
        c.due("0 and 2", x.trailOf(), 5);
        x.minutes(0, 2, 61);
        x.trail(3);
        c.due("1 and 3", x.trailOf(), 10);
        x.minutes(1, 2, 5);
        x.minutes(0, 3, 5);
        x.themes(0, 1);
        x.themes(1, 1);
        x.themes(2, 2);
        x.themes(3, 2);
        c.due("0 and 3 as near as 1 and 2", x.trail(3), 5);
        c.due("the least first", x.trailOf(), 9);
    }

    private void trailOfStays() {
        s.promise(43, "WALLS of the latest trail() that told 0 or more, as bits; NONE ahead of any.");
        WallHouse x = new WallHouse();
        c.due("ahead of any", x.trailOf(), NONE);
        c.due("-2", x.trail(1), -2);
        c.due("ahead of any still", x.trailOf(), NONE);
        x.trail(1024);
        c.due("a refused one", x.trailOf(), NONE);
        for (int i = 0; i < 10; i++) {
            x.wall(1, 1, 0, 0);
            x.themes(i, 2);
        }
        x.themes(0, 1);
        c.due("0", x.trail(1), 0);
        c.due("told 0", x.trailOf(), 1);
        c.due("-2", x.trail(4), -2);
        c.due("it stays", x.trailOf(), 1);
        x.trail(-1);
        c.due("refused by 2", x.trailOf(), 1);
        c.refused(x, "6", x.trail(3), 6);
        c.due("refused by 6", x.trailOf(), 1);
        x.themes(0, 4);
        c.due("what is told later doesn't matter", x.trailOf(), 1);
        c.due("nine", x.trail(2), 0);
        c.due("the latest", x.trailOf(), 2);
    }

    // ---- shares of rights

    private void getsInOrder() {
        s.promise(44, "NONE: 1; 2 (WHO, too)");
        WallHouse x = new WallHouse();
        c.refused(x, "no right", x.gets(0, 1, 0), 1);
        Check.right(x, "town rest");
        for (int right : new int[] {MIN, -1, 1, 8, MAX}) {
            c.refused(x, "1 ahead of 2", x.gets(right, -1, 4), 1);
        }
        for (int who : new int[] {MIN, -1, 4, MAX}) {
            c.refused(x, "who " + who, x.gets(0, 1, who), 2);
        }
        c.due("who 0", x.gets(0, 1, 0), 0);
        c.due("trouble()", x.trouble(), 0);
        c.due("who 3", x.gets(0, 1, 3), 0);
    }

    private void getsRange() {
        s.promise(44, "a fee (0 .. 1,000,000)");
        WallHouse x = new WallHouse();
        Check.right(x, "painter 100%");
        for (int fee : new int[] {MIN, -1, 1000001, MAX}) {
            c.refused(x, "fee " + fee, x.gets(0, fee, 0), 2);
        }
        c.due("0", x.gets(0, 0, 0), 0);
        c.due("0 to the town", x.gets(0, 0, 2), 0);
        c.due("1,000,000", x.gets(0, 1000000, 0), 1000000);
        c.due("nothing is left", x.gets(0, 1000000, 2), 0);
    }

    private void getsDownwards() {
        s.term("VI", "each its hundredths, downwards, rest what is left");
        WallHouse x = new WallHouse();
        Check.right(x, "painter 50%,owner 0%,school 1%,town rest");
        c.due("half of 199", x.gets(0, 199, 0), 99);
        c.due("0 hundredths", x.gets(0, 199, 1), 0);
        c.due("a hundredth of 199", x.gets(0, 199, 3), 1);
        c.due("the rest", x.gets(0, 199, 2), 99);
        c.due("a hundredth of 99", x.gets(0, 99, 3), 0);
        c.due("a hundredth of 100", x.gets(0, 100, 3), 1);
        c.due("half of 1", x.gets(0, 1, 0), 0);
        c.due("the rest of 1", x.gets(0, 1, 2), 1);
        Check.right(x, "painter 33%,painter 33%,painter 34%");
        c.due("line by line", x.gets(1, 50, 0), 16 + 16 + 17);
        c.due("what is left", x.gets(1, 50, 2), 1);
    }

    private void getsRests() {
        s.term("VI", "(several rests: in even parts, the first has what is over)");
        WallHouse x = new WallHouse();
        Check.right(x, "owner rest,town rest,school rest");
        int[][] due = {{0, 0, 0}, {1, 0, 0}, {2, 0, 0}, {1, 1, 1}, {2, 1, 1}, {3, 1, 1}, {2, 2, 2}};
        for (int fee = 0; fee < due.length; fee++) {
            for (int who = 1; who <= 3; who++) {
                c.due(fee + " to " + who, x.gets(0, fee, who), due[fee][who - 1]);
            }
        }
        Check.right(x, "school 10%,town rest,owner rest,town rest");
        c.due("two of three", x.gets(1, 109, 2), 33 + 33);
        c.due("one of three", x.gets(1, 109, 1), 33);
        c.due("with what is over", x.gets(1, 111, 2), 34 + 33);
        Check.right(x, "town rest,town 100%");
        c.due("a rest of nothing", x.gets(2, 77, 2), 77);
        Check.right(x, Check.times("school rest,", 7) + "painter rest");
        c.due("eight rests: the last", x.gets(3, 15, 0), 1);
        c.due("eight rests: the others", x.gets(3, 15, 3), 14);
    }

    private void getsNoRest() {
        s.term("VI", "without a rest LINE what is left is the town's");
        WallHouse x = new WallHouse();
        Check.right(x, "painter 10%");
        c.due("to the town", x.gets(0, 99, 2), 90);
        c.due("to the painter", x.gets(0, 99, 0), 9);
        c.due("to the owner", x.gets(0, 99, 1), 0);
        Check.right(x, "town 10%,school 10%");
        c.due("beside its own", x.gets(1, 99, 2), 90);
        Check.right(x, "town 10%,school rest");
        c.due("with a rest line it isn't", x.gets(2, 99, 2), 9);
        c.due("that has it", x.gets(2, 99, 3), 90);
    }

    // ---- led

    private void ledOthers() {
        s.promise(45, "2 the TIN (-2); NONE (also of a bare one)");
        c.due("no wall", new WallHouse().led(0, 0, 0, 0), NONE);
        WallHouse x = Check.town(3, 2, 0);
        x.painter(1, 1);
        Check.draw(x, "rect 1 0 0 2 1");
        for (int what = 0; what < 3; what++) {
            c.due("bare", x.led(0, 0, 0, what), NONE);
        }
        x.work(0, 0, 0);
        c.due("under way", x.led(0, 0, 0, 0), NONE);
        finish(x);
        x.tin(1, 1);
        x.work(0, 1, 0);
        c.due("another under way", x.led(0, 0, 0, 1), 0);
        finish(x);
        c.due("the work", x.led(0, 0, 0, 0), 1);
        c.due("the painter", x.led(0, 0, 0, 1), 1);
        c.due("the tin", x.led(0, 0, 0, 2), 0);
        c.due("of none", x.led(0, 1, 0, 2), -2);
        for (int what : new int[] {MIN, -1, 3, MAX}) {
            c.due("what " + what, x.led(0, 0, 0, what), NONE);
        }
        int[][] beyond = {{0, -1, 0}, {0, 0, -1}, {0, 3, 0}, {0, 0, 2}, {1, 0, 0}, {-1, 0, 0}, {16, 0, 0},
            {0, MIN, 0}, {0, 0, MIN}, {0, MAX, 0}, {0, 0, MAX}, {MIN, 0, 0}, {MAX, 0, 0}};
        for (int[] at : beyond) {
            c.due("led(" + at[0] + ", " + at[1] + ", " + at[2] + ")", x.led(at[0], at[1], at[2], 0), NONE);
        }
        for (int what = 0; what < 3; what++) {
            c.due("a bare one", x.led(0, 2, 1, what), NONE);
        }
        x.hole(0, 0, 0, 1, 1);
        for (int what = 0; what < 3; what++) {
            c.due("a hole", x.led(0, 0, 0, what), NONE);
        }
    }

    private void ledTins() {
        s.term("VII", "of a CELL the WORK that painted it, its PAINTER, its TIN (-2 of none)");
        WallHouse x = dotTown(2);
        x.tin(1, 5);
        x.work(1, 0, 0);
        finish(x);
        x.tin(1, 5);
        x.work(0, 0, 0);
        finish(x);
        c.due("of wall 1", x.led(1, 0, 0, 0), 0);
        c.due("of wall 0", x.led(0, 0, 0, 0), 1);
        c.due("both by tin 0", x.led(0, 0, 0, 2) + x.led(1, 0, 0, 2), 0);
        c.due("it shows on both", x.shows(0), 2);
    }

    private void showsOthers() {
        s.promise(46, "CELLS of a TIN that are on WALLS now; NONE.");
        c.due("no tin", new WallHouse().shows(0), NONE);
        WallHouse x = new WallHouse();
        x.tin(0, 1);
        for (int tin : new int[] {MIN, -2, -1, 1, 60, MAX}) {
            c.due("shows(" + tin + ")", x.shows(tin), NONE);
        }
        c.due("no wall", x.shows(0), 0);
        x.wall(16, 12, 0, 0);
        c.due("a bare wall", x.shows(0), 0);
    }

    private void showsNow() {
        s.term("VII", "A TIN's CELLS that are on WALLS now.");
        WallHouse x = Check.town(16, 12, 0);
        x.wall(16, 12, 0, 0);
        x.leave(1, 0, 9, true);
        Check.draw(x, "rect 3 0 0 16 12");
        Check.draw(x, "disc 3 0 0 0");
        x.tin(3, 999);
        x.work(0, 0, 0);
        x.work(1, 0, 0);
        Check.sunny(x, 0, 30);
        x.pass(10);
        c.due("ahead of its end", x.shows(0), 0);
        x.pass(1);
        c.due("two walls full", x.shows(0), 384);
        c.due("left(0)", x.left(0), 999 - 384);
        x.hole(1, 0, 0, 16, 1);
        c.due("without holes", x.shows(0), 368);
        x.work(0, 0, 1);
        x.pass(4);
        c.due("painted over", x.shows(0), 177);
    }

    // ---- counts and trouble

    private void countOthers() {
        s.promise(47, "11 bytes of THE TAPE. NONE for others.");
        WallHouse x = new WallHouse();
        for (int what : new int[] {MIN, -1, 12, 13, MAX}) {
            c.due("count(" + what + ")", x.count(what), NONE);
        }
        x.feed(0, 0, 0, 0, 0);
        int[] due = {0, 0, 0, 0, 0, 0, 0, 0, 0, 0, 0, 20};
        for (int what = 0; what < due.length; what++) {
            c.due("count(" + what + ")", x.count(what), due[what]);
        }
    }

    private void troubleAtFirst() {
        s.promise(48, "TROUBLE.");
        WallHouse x = new WallHouse();
        c.due("at first", x.trouble(), 0);
        x.wall(0, 0, 0, 0);
        c.due("refused", x.trouble(), 2);
        c.due("asked again", x.trouble(), 2);
        x.wall(1, 1, 0, 0);
        c.due("not refused", x.trouble(), 0);
    }

    private void troubleNumbers() {
        s.term("VIII", "TROUBLE of the latest call that may be refused: 0 it wasn't");
        WallHouse x = new WallHouse();
        c.refused(x, "1 there is none such", x.hole(0, 0, 0, 1, 1), 1);
        c.refused(x, "2 a number", x.wall(1, 1, 1, 100), 2);
        for (int i = 0; i < 16; i++) {
            x.wall(1, 1, 0, 0);
        }
        c.refused(x, "3 no room", x.wall(1, 1, 0, 0), 3);
        c.refused(x, "4 a fault", Check.draw(x, "dot"), 4);
        c.refused(x, "5 not so", x.give(1), 5);
        for (int i = 0; i < 7; i++) {
            x.leave(i, 0, 0, true);
        }
        c.refused(x, "6 too many", x.give(127), 6);
        c.due("not refused", x.give(1), 0);
        c.due("0 it wasn't", x.trouble(), 0);
        s.term("VIII", "5 not so (no LEAVE, a WORK that isn't over, BARS are SHOWN, CLEANED already)");
        Check.draw(x, "say 1 a 0 0");
        x.painter(0, 0);
        c.refused(x, "no leave", x.work(9, 0, 0), 5);
        x.work(0, 0, 0);
        c.refused(x, "a work that isn't over", x.work(0, 0, 0), 5);
        Check.bar(x, "a");
        c.refused(x, "bars are shown", x.work(1, 0, 0), 5);
        x.tag(0, 1);
        x.clean(0);
        c.denied(x, "cleaned already", x.clean(0), 5);
    }
}
