/** What the tests of boundary cases share: each test names the sentence that it holds to. */
abstract class Bounds {
    static final int NONE = WallHouse.NONE;
    static final int MIN = Integer.MIN_VALUE;
    static final int MAX = Integer.MAX_VALUE;
    /** A step of the least cost, and what makes one of it that paints nothing. */
    static final String DOT = "disc 1 0 0 0";

    final Check c;
    final Sentences s;

    Bounds(Check c, Sentences s) {
        this.c = c;
        this.s = s;
    }

    abstract void run();

    /** Four good days go by, as the smallest WORK needs. */
    static int finish(WallHouse x) {
        Check.sunny(x, x.count(9), x.count(9) + 3);
        return x.pass(4);
    }

    /** A town with walls of one cell, leave for them, one painter, and a drawing of one cell. */
    static WallHouse dotTown(int walls) {
        WallHouse x = Check.openTown(walls, 1);
        Check.draw(x, DOT);
        return x;
    }

    void drawingFault(String text, int fault, int place) {
        WallHouse x = new WallHouse();
        c.refused(x, text, Check.draw(x, text), 4);
        c.due("fault() of " + text, x.fault(), fault);
        c.due("where() of " + text, x.where(), place);
        c.due("drawings behind " + text, x.count(2), 0);
    }

    void drawingGood(String text) {
        WallHouse x = new WallHouse();
        c.due(text, Check.draw(x, text), 0);
        c.due("trouble() of " + text, x.trouble(), 0);
        c.due("fault() of " + text, x.fault(), 0);
        c.due("where() of " + text, x.where(), NONE);
    }

    void rightFault(String text, int fault, int place) {
        WallHouse x = new WallHouse();
        c.refused(x, text, Check.right(x, text), 4);
        c.due("fault() of " + text, x.fault(), fault);
        c.due("where() of " + text, x.where(), place);
        c.due("rights behind " + text, x.count(8), 0);
    }

    void rightGood(String text) {
        WallHouse x = new WallHouse();
        c.due(text, Check.right(x, text), 0);
        c.due("fault() of " + text, x.fault(), 0);
        c.due("where() of " + text, x.where(), NONE);
    }

    void barFault(String text, int place) {
        WallHouse x = new WallHouse();
        c.refused(x, "bar " + text, Check.bar(x, text), 4);
        c.due("fault() of bar " + text, x.fault(), 1);
        c.due("where() of bar " + text, x.where(), place);
        c.due("bars behind " + text, x.count(3), 0);
    }

    /** A drawing's rows on a wall of their size: a digit a cell, a dot for a bare one. */
    void paints(String text, String... rows) {
        WallHouse x = new WallHouse();
        x.wall(rows[0].length(), rows.length, 0, 0);
        c.due(text, Check.draw(x, text), 0);
        x.sketch(0, 0);
        rowsAre(x, text, rows);
    }

    void rowsAre(WallHouse x, String text, String... rows) {
        StringBuilder got = new StringBuilder();
        StringBuilder want = new StringBuilder();
        for (int y = 0; y < rows.length; y++) {
            for (int at = 0; at < rows[y].length(); at++) {
                int colour = x.sketched(at, y);
                got.append(colour == -2 ? "." : "" + colour);
                want.append(rows[y].charAt(at));
            }
        }
        c.yes(text + " painted " + got + ", due is " + want, got.toString().equals(want.toString()));
    }

    /** A number as a sum, since a WHOLE has three digits and no sign. */
    static String asSum(int v) {
        return (v < 0 ? "0-" : "") + Math.abs(v) / 100 + "*100" + (v < 0 ? "-" : "+") + Math.abs(v) % 100;
    }

    void sumIs(String sum, int due) {
        WallHouse x = new WallHouse();
        x.wall(16, 12, 0, 0);
        c.due(sum, Check.draw(x, "if " + sum + "=" + asSum(due) + "[" + DOT + "]"), 0);
        c.due(sum + " is " + due, x.sketch(0, 0), 1);
    }
}
