/** Every promise of the document by its number. */
public final class PromiseTest {
    private static final Check C = new Check();
    private static final int NONE = WallHouse.NONE;

    public static void main(String[] args) {
        newObject();
        walls();
        holes();
        leaves();
        pairs();
        tape();
        drawingFaults();
        drawingLimits();
        bars();
        rightFaults();
        rightShares();
        faultAndWhere();
        sketches();
        sums();
        loops();
        spent();
        words();
        unlike();
        painters();
        votes();
        giving();
        givingBeside();
        givingTies();
        beginning();
        workStages();
        coats();
        liftsByNumber();
        foretelling();
        weather();
        tins();
        passing();
        replacing();
        looks();
        pale();
        tags();
        rounds();
        trails();
        led();
        counts();
        troubles();
        fullHouse();
        C.end();
    }

    private static void newObject() {
        C.part("1 new object");
        WallHouse x = new WallHouse();
        for (int what = 0; what <= 11; what++) {
            C.due("count(" + what + ")", x.count(what), 0);
        }
        C.due("trouble()", x.trouble(), 0);
        C.due("fault()", x.fault(), 0);
        C.due("where()", x.where(), NONE);
        C.due("late()", x.late(), 0);
        C.due("trailOf()", x.trailOf(), NONE);
        C.due("given(0)", x.given(0), NONE);
        C.due("about(0, 0)", x.about(0, 0), NONE);
        C.due("two objects", new WallHouse().count(0), 0);
    }

    private static void walls() {
        C.part("2 wall, 3 about");
        WallHouse x = new WallHouse();
        C.refused(x, "wide 0", x.wall(0, 1, 0, 0), 2);
        C.refused(x, "wide 17", x.wall(17, 1, 0, 0), 2);
        C.refused(x, "high 0", x.wall(1, 0, 0, 0), 2);
        C.refused(x, "high 13", x.wall(1, 13, 0, 0), 2);
        C.refused(x, "side -1", x.wall(1, 1, -1, 0), 2);
        C.refused(x, "side 4", x.wall(1, 1, 4, 0), 2);
        C.refused(x, "owner -1", x.wall(1, 1, 0, -1), 2);
        C.refused(x, "owner 100", x.wall(1, 1, 0, 100), 2);
        C.due("the first", x.wall(16, 12, 3, 99), 0);
        C.due("trouble()", x.trouble(), 0);
        int[] due = {16, 12, 3, 99, 0, 0, -2, 0, 0, -2, NONE};
        for (int what = 0; what < due.length; what++) {
            C.due("about(0, " + what + ")", x.about(0, what), due[what]);
        }
        C.due("about(0, -1)", x.about(0, -1), NONE);
        C.due("about(1, 0)", x.about(1, 0), NONE);
        C.due("about(-1, 0)", x.about(-1, 0), NONE);
        for (int i = 1; i < 16; i++) {
            C.due("wall " + i, x.wall(1, 1, 0, 0), i);
        }
        C.refused(x, "a 17th", x.wall(1, 1, 0, 0), 3);
        C.refused(x, "a 17th with a wrong number", x.wall(0, 1, 0, 0), 2);
        C.due("count(0)", x.count(0), 16);
        C.yes("themes", x.themes(15, 1023));
        C.due("about(15, 7)", x.about(15, 7), 1023);
    }

    private static void holes() {
        C.part("4 hole");
        WallHouse x = new WallHouse();
        x.wall(6, 4, 0, 0);
        C.refused(x, "wall 1", x.hole(1, 9, 9, 9, 9), 1);
        C.refused(x, "x -1", x.hole(0, -1, 0, 1, 1), 2);
        C.refused(x, "y -1", x.hole(0, 0, -1, 1, 1), 2);
        C.refused(x, "x 6", x.hole(0, 6, 0, 1, 1), 2);
        C.refused(x, "y 4", x.hole(0, 0, 4, 1, 1), 2);
        C.refused(x, "wide 0", x.hole(0, 0, 0, 0, 1), 2);
        C.refused(x, "high 0", x.hole(0, 0, 0, 1, 0), 2);
        C.refused(x, "over the right", x.hole(0, 1, 0, 6, 1), 2);
        C.refused(x, "over the foot", x.hole(0, 0, 1, 1, 4), 2);
        C.refused(x, "a very wide one", x.hole(0, 1, 1, Integer.MAX_VALUE, 1), 2);
        C.due("none is cut", x.about(0, 5), 0);
        C.due("two by two", x.hole(0, 1, 1, 2, 2), 4);
        C.due("trouble()", x.trouble(), 0);
        C.due("a row over them", x.hole(0, 0, 1, 6, 1), 4);
        C.due("again", x.hole(0, 0, 1, 6, 1), 0);
        C.due("about(0, 5)", x.about(0, 5), 8);
        C.due("all", x.hole(0, 0, 0, 6, 4), 16);
        Check.draw(x, "rect 1 0 0 wide high");
        C.due("no bare cell", x.sketch(0, 0), 0);
        x.wall(2, 2, 0, 0);
        x.leave(1, 0, 9, true);
        x.painter(0, 0);
        C.due("a work", x.work(1, 0, 0), 0);
        C.refused(x, "a number ahead of a work", x.hole(1, 2, 0, 1, 1), 2);
        C.refused(x, "under way", x.hole(1, 0, 0, 1, 1), 5);
    }

    private static void leaves() {
        C.part("5 leave, 6 sold");
        WallHouse x = new WallHouse();
        x.wall(2, 2, 0, 1);
        C.denied(x, "wall 1", x.leave(1, 5, 2, true), 1);
        C.denied(x, "from -1", x.leave(0, -1, 2, true), 2);
        C.denied(x, "to 10", x.leave(0, 0, 10, true), 2);
        C.denied(x, "from 10", x.leave(0, 10, 10, true), 2);
        C.denied(x, "backwards", x.leave(0, 3, 2, true), 2);
        C.due("none yet", x.about(0, 4), 0);
        C.yes("one year", x.leave(0, 0, 0, false));
        C.due("trouble()", x.trouble(), 0);
        C.due("this year", x.about(0, 4), 1);
        C.yes("the next one", x.leave(0, 1, 1, false));
        C.due("not this year", x.about(0, 4), 0);
        Check.passTo(x, 364);
        C.due("day 364", x.about(0, 4), 0);
        x.pass(1);
        C.due("day 365", x.about(0, 4), 1);
        Check.passTo(x, 729);
        C.due("day 729", x.about(0, 4), 1);
        x.pass(1);
        C.due("day 730", x.about(0, 4), 0);
        C.denied(x, "sold: wall 1", x.sold(1, 100), 1);
        C.denied(x, "sold: -1", x.sold(0, -1), 2);
        C.denied(x, "sold: 100", x.sold(0, 100), 2);
        x.leave(0, 0, 9, true);
        C.yes("sold", x.sold(0, 99));
        C.due("the owner", x.about(0, 3), 99);
        C.due("it carries", x.about(0, 4), 1);
        x.leave(0, 2, 9, false);
        x.sold(0, 98);
        C.due("it doesn't carry", x.about(0, 4), 0);
        Check.passTo(x, 1095);
        C.due("nor in the next year", x.about(0, 4), 0);
        C.yes("told anew", x.leave(0, 3, 9, true));
        C.due("it holds again", x.about(0, 4), 1);
        x.leave(0, 4, 9, false);
        x.sold(0, 97);
        Check.passTo(x, 1460);
        C.due("years to come went too", x.about(0, 4), 0);
    }

    private static void pairs() {
        C.part("7 beside, 8 minutes");
        WallHouse x = new WallHouse();
        x.wall(1, 1, 0, 0);
        x.wall(1, 1, 0, 0);
        C.denied(x, "beside itself", x.beside(1, 1, true), 1);
        C.denied(x, "beside(0, 2)", x.beside(0, 2, true), 1);
        C.denied(x, "beside(-1, 0)", x.beside(-1, 0, false), 1);
        C.yes("beside", x.beside(0, 1, true));
        C.due("trouble()", x.trouble(), 0);
        C.yes("not beside", x.beside(1, 0, false));
        C.denied(x, "minutes(0, 2, 0)", x.minutes(0, 2, 0), 1);
        C.denied(x, "minutes of one wall", x.minutes(1, 1, 5), 1);
        C.denied(x, "minutes 0", x.minutes(0, 1, 0), 2);
        C.denied(x, "minutes 121", x.minutes(0, 1, 121), 2);
        x.themes(0, 1);
        x.themes(1, 2);
        C.due("60 until told", x.trail(3), 60);
        C.yes("120", x.minutes(1, 0, 120));
        C.due("120", x.trail(3), 120);
        C.yes("1", x.minutes(0, 1, 1));
        C.due("1", x.trail(3), 1);
    }

    private static void tape() {
        C.part("9 feed");
        WallHouse x = new WallHouse();
        for (int i = 1; i <= 20; i++) {
            C.due("feed " + i, x.feed(0x61626364, 0x20202020, -1, 0, 0x0a0a0a0a), 20 * i);
        }
        C.due("a 21st", x.feed(0, 0, 0, 0, 0), NONE);
        C.due("count(11)", x.count(11), 400);
        C.refused(x, "drawing(401)", x.drawing(401), 2);
        C.refused(x, "right(-1)", x.right(-1), 2);
        C.refused(x, "bar(401)", x.bar(401), 2);
        C.due("it stays", x.count(11), 400);
        C.due("the highest first", x.bar(4), 1);
        C.due("it is empty", x.count(11), 0);
        C.refused(x, "drawing(1)", x.drawing(1), 2);
        C.refused(x, "a byte of 255", fault(x, "rect" + (char) 255 + " 1"), 4);
        C.due("where()", x.where(), 4);
        C.refused(x, "a byte of 0", fault(x, "rect " + (char) 0), 4);
        C.due("where()", x.where(), 5);
        C.due("10s and blanks part tokens", Check.draw(x, "\n rect\n\n1 0 0\n1 1 \n"), 0);
        C.refused(x, "9 parts none", fault(x, "rect 1\t0 0 1 1"), 4);
        C.due("where()", x.where(), 6);
    }

    private static int fault(WallHouse x, String text) {
        return Check.draw(x, text);
    }

    private static void drawingFault(String text, int fault, int place) {
        WallHouse x = new WallHouse();
        C.refused(x, text, Check.draw(x, text), 4);
        C.due("fault() of " + text, x.fault(), fault);
        C.due("where() of " + text, x.where(), place);
        C.due("count(2) behind " + text, x.count(2), 0);
        C.due("count(11) behind " + text, x.count(11), 0);
    }

    private static void drawingGood(String text) {
        WallHouse x = new WallHouse();
        C.due(text, Check.draw(x, text), 0);
        C.due("fault() of " + text, x.fault(), 0);
        C.due("where() of " + text, x.where(), NONE);
    }

    private static void drawingFaults() {
        C.part("10 drawing");
        drawingFault("   ", 1, 3);
        drawingFault("rect 1 0 0 1  ", 1, 14);
        drawingFault("rect 1 0 0 1 1;", 1, 15);
        drawingFault("rect 1 0 0 1 1 x", 1, 15);
        drawingFault("rect 1 0 0 1 1 1", 1, 15);
        drawingFault("rect 1 0 0 1 1 ]", 1, 15);
        drawingFault("rect 1 0 0 1 1; 5", 1, 16);
        drawingFault("rect 1 0 0 1 1, rect 1 0 0 1 1", 1, 14);
        drawingFault("rect 1 0 0 1 1%", 1, 14);
        drawingFault("rect 1 0 0 -1 1", 1, 15);
        drawingFault("rect 1 -1 0 1 1", 1, 7);
        drawingFault("rect 1 (1 0 1 1", 1, 10);
        drawingFault("rect 1 () 0 1 1", 1, 8);
        drawingFault("rect 1 1) 0 1 1", 1, 8);
        drawingFault("rect 1 1 + * 2 0 1 1", 1, 11);
        drawingFault("Rect 1 0 0 1 1", 1, 0);
        drawingFault("from 1", 2, 0);
        drawingFault("i", 2, 0);
        drawingFault("wide", 2, 0);
        drawingFault("rect 1 0 0 1 1; to", 2, 16);
        drawingFault("if 1 = 1 [ high", 2, 11);
        drawingFault("rect 1 x 0 1 1", 2, 7);
        drawingFault("rect 1 0 0 1 + l", 2, 15);
        drawingFault("rect 1 0 x", 2, 9);
        drawingFault("disc 1 0 0 each", 1, 11);
        for (String kept : new String[] {"rect", "disc", "say", "each", "from", "to", "if"}) {
            drawingFault("if 1 + " + kept, 1, 7);
        }
        drawingFault("disc 8 0 0 1", 3, 5);
        drawingFault("say 999 a 0 0", 3, 4);
        drawingFault("rect 08 0 0 1 1", 3, 5);
        drawingFault("say 1 2 0 0", 1, 6);
        drawingFault("say a a 0 0", 1, 4);
        drawingFault("each wide from 0 to 1", 1, 5);
        drawingFault("each 1 from 0 to 1", 1, 5);
        drawingFault("each ij from 0 to 1", 1, 5);
        drawingFault("each i to 0", 1, 7);
        drawingFault("each i from 0 from", 1, 14);
        drawingFault("each i from 0 x", 1, 14);
        drawingFault("each i from 0 to 1 rect", 1, 19);
        drawingFault("if 1 + 1 [", 1, 9);
        drawingFault("if 1 < 1 = 1", 1, 9);
        drawingFault("if 1 = 1 [ rect 1 0 0 1 1", 1, 25);
        drawingFault("if 1 = 1 [ rect 1 0 0 1 1 ] rect", 1, 28);
        drawingFault("rect 1 0 0 1 1 ; if 1 = 1 [ rect 1 0 0 1 1 ] ]", 1, 45);
        drawingFault("rect 1 1000 0 1 1", 1, 7);
        drawingFault("say 1 abcdefghi 0 0", 1, 6);
        drawingGood("say 1 abcdefgh 999 0");
        drawingGood("say 7 rect 0 0");
        drawingGood("rect007 0 0 wide high");
        drawingGood("disc 1 i+j*k-m/n (1) ((2))");
        drawingGood("each n from 0-1 to 2[each n from n to 1[say 0 a n n];disc 1 1 1 1]");
        WallHouse x = new WallHouse();
        for (int i = 0; i < 12; i++) {
            C.due("drawing " + i, Check.draw(x, "disc 1 0 0 1"), i);
        }
        C.refused(x, "a 13th with a fault", Check.draw(x, "disc"), 4);
        C.refused(x, "a 13th", Check.draw(x, "disc 1 0 0 1"), 3);
        C.due("fault()", x.fault(), 0);
        C.due("the tape is empty", x.count(11), 0);
        C.due("count(2)", x.count(2), 12);
        x.wall(1, 1, 0, 0);
        C.due("the last one stays", x.sketch(11, 0), 1);
    }

    private static void drawingLimits() {
        C.part("10 drawing: many");
        String step = "if 1=1[";
        drawingFault(Check.times(step, 7), 4, 48);
        drawingGood(Check.times(step, 6) + "disc 1 1 1 1" + Check.times("]", 6));
        drawingGood(Check.times("if 1=1[disc 1 1 1 1];", 7) + "disc 1 1 1 1");
        drawingFault("rect 1 (((((((1", 4, 13);
        drawingGood("disc 1 ((((((1)))))) 1 1");
        drawingGood("disc 1 (1)+(1)+(1)+(1)+(1)+(1)+(1)+(1) 1 1");
        drawingFault("disc 1 ((((((1))))))+((((((( 1 1", 4, 27);
        // 40 steps of eight bytes, none of which has a part but in its sums
        String small = "say 0a00";
        drawingFault("say 0a0 0;" + Check.times("say 0a0 0;", 38) + "say 0a0 0;", 1, 400);
        String forty = Check.times("say 0a0i;", 39) + "say 0a0i";
        drawingGood(forty);
        drawingFault(forty + ";say 0a0i", 4, 360);
        drawingFault(forty + ";line", 2, 360);
        drawingFault(forty + ";if", 4, 360);
        drawingFault(forty + ";5", 1, 360);
        String parts = "disc 1 1 1 " + Check.times("1+", 117) + "1";
        drawingGood(parts);
        drawingFault(parts + "+1", 4, parts.length() + 1);
        drawingFault(parts + "+i", 4, parts.length() + 1);
        drawingFault(parts + "+wide", 4, parts.length() + 1);
        drawingFault(parts + "+x", 2, parts.length() + 1);
        drawingFault(parts + "+to", 1, parts.length() + 1);
        drawingFault(parts + ";disc 1 1", 4, parts.length() + 8);
        drawingFault(small, 1, 8);
        drawingFault(Check.times(";", 400), 1, 0);
        drawingFault("disc 1 " + Check.times("1 ", 3) + Check.times(";", 387), 1, 14);
        rightFault(Check.times("%", 400), 1, 0);
    }

    private static void bars() {
        C.part("11 bar");
        WallHouse x = new WallHouse();
        C.refused(x, "bar(1)", x.bar(1), 2);
        C.refused(x, "bar(-1)", x.bar(-1), 2);
        String[] wrong = {"", "A", "a b", " a", "a\n", "a1", "abcdefghi", "abcdefgh ", "abcdefghij9"};
        int[] places = {0, 0, 1, 0, 1, 1, 8, 8, 8};
        for (int i = 0; i < wrong.length; i++) {
            C.refused(x, "bar " + wrong[i], Check.bar(x, wrong[i]), 4);
            C.due("fault() of " + wrong[i], x.fault(), 1);
            C.due("where() of " + wrong[i], x.where(), places[i]);
            C.due("count(11)", x.count(11), 0);
        }
        C.due("one letter", Check.bar(x, "z"), 1);
        C.due("fault()", x.fault(), 0);
        for (int i = 2; i <= 12; i++) {
            C.due("bar " + i, Check.bar(x, "abcdefgh"), i);
        }
        C.refused(x, "a 13th", Check.bar(x, "a"), 3);
        C.due("fault()", x.fault(), 0);
        C.refused(x, "a 13th with a fault", Check.bar(x, "5"), 4);
        C.due("count(3)", x.count(3), 12);
        x.wall(1, 1, 0, 0);
        Check.draw(x, "say 1 abcdefgh 0 0; say 1 y 0 0");
        x.sketch(0, 0);
        C.due("eleven of twelve are shown", x.sketchOf(10), 11);
    }

    private static void rightFault(String text, int fault, int place) {
        WallHouse x = new WallHouse();
        C.refused(x, text, Check.right(x, text), 4);
        C.due("fault() of " + text, x.fault(), fault);
        C.due("where() of " + text, x.where(), place);
        C.due("count(8)", x.count(8), 0);
        C.due("count(11)", x.count(11), 0);
    }

    private static void rightFaults() {
        C.part("12 right");
        rightFault("", 1, 0);
        rightFault("  ", 1, 2);
        rightFault("5%", 1, 0);
        rightFault("rest", 1, 0);
        rightFault("artist 5%", 2, 0);
        rightFault("painter 5%, baker", 2, 12);
        rightFault("painter 5%, rest", 1, 12);
        rightFault("painter 5%,", 1, 11);
        rightFault("painter 5% owner", 1, 11);
        rightFault("painter 5;", 1, 9);
        rightFault("painter %", 1, 8);
        rightFault("painter owner", 1, 8);
        rightFault("painter half", 1, 8);
        rightFault("painter 1000%", 1, 8);
        rightFault("painter rest %", 1, 13);
        rightFault("painter 101", 3, 8);
        rightFault("painter 50%, owner 50%, town 1%", 3, 29);
        rightFault("town 1", 1, 6);
        rightFault("town 1!", 1, 6);
        String eight = Check.times("town 1%,", 7) + "town 1%";
        rightFault(eight + ",town", 4, 64);
        rightFault(eight + ",rest", 1, 64);
        rightFault(eight + ",tower", 2, 64);
        rightFault(eight + ",5", 1, 64);
        WallHouse x = new WallHouse();
        C.due("eight lines", Check.right(x, eight), 0);
        C.due("100 in all", Check.right(x, "painter 100% , owner 0 %,town rest"), 1);
        for (int i = 2; i < 8; i++) {
            C.due("right " + i, Check.right(x, "school\nrest"), i);
        }
        C.refused(x, "a ninth with a fault", Check.right(x, "school"), 4);
        C.refused(x, "a ninth", Check.right(x, "school rest"), 3);
        C.due("fault()", x.fault(), 0);
        C.due("count(8)", x.count(8), 8);
        C.due("count(11)", x.count(11), 0);
        C.refused(x, "right(1)", x.right(1), 2);
    }

    private static void rightShares() {
        C.part("44 gets");
        WallHouse x = new WallHouse();
        C.refused(x, "none yet", x.gets(0, -1, 9), 1);
        Check.right(x, "painter 33%, owner 33%, school 33%");
        C.refused(x, "gets(1, ..)", x.gets(1, 1, 0), 1);
        C.refused(x, "gets(-1, ..)", x.gets(-1, 1, 0), 1);
        C.refused(x, "fee -1", x.gets(0, -1, 0), 2);
        C.refused(x, "fee 1,000,001", x.gets(0, 1000001, 0), 2);
        C.refused(x, "who -1", x.gets(0, 1, -1), 2);
        C.refused(x, "who 4", x.gets(0, 1, 4), 2);
        int[] due = {32, 32, 3, 32};
        for (int who = 0; who < 4; who++) {
            C.due("99 to " + who, x.gets(0, 99, who), due[who]);
        }
        C.due("trouble()", x.trouble(), 0);
        C.due("a fee of 0", x.gets(0, 0, 2), 0);
        C.due("the highest fee", x.gets(0, 1000000, 0), 330000);
        C.due("what is left of it", x.gets(0, 1000000, 2), 10000);
        Check.right(x, "school rest, owner rest, town 10%, school rest");
        C.due("three rests: the first", x.gets(1, 55, 3), 16 + 18);
        C.due("three rests: the second", x.gets(1, 55, 1), 16);
        C.due("beside rests", x.gets(1, 55, 2), 5);
        C.due("none", x.gets(1, 55, 0), 0);
        Check.right(x, "painter 1%, painter 1%, town rest");
        C.due("by lines, not by who", x.gets(2, 150, 0), 2);
        C.due("the rest", x.gets(2, 150, 2), 148);
    }

    private static void faultAndWhere() {
        C.part("13 fault, 14 where");
        WallHouse x = new WallHouse();
        Check.draw(x, "rect 9");
        C.due("fault()", x.fault(), 3);
        C.due("where()", x.where(), 5);
        x.about(0, 0);
        C.due("queries don't touch it", x.where(), 5);
        x.wall(1, 1, 0, 0);
        C.due("where() behind another call", x.where(), NONE);
        C.due("fault() stays", x.fault(), 3);
        x.drawing(5);
        C.due("refused by 2: it stays", x.fault(), 3);
        C.due("where()", x.where(), NONE);
        Check.bar(x, "a");
        C.due("fault() of a good one", x.fault(), 0);
    }

    private static void sketches() {
        C.part("15 sketch, 16 sketched, 17 sketchOf");
        WallHouse x = new WallHouse();
        x.wall(5, 3, 0, 0);
        C.refused(x, "no drawing", x.sketch(0, 0), 1);
        C.due("sketched ahead of any", x.sketched(0, 0), NONE);
        C.due("sketchOf ahead of any", x.sketchOf(0), NONE);
        Check.draw(x, "rect 2 3 1 9 9; disc 7 0 0 1");
        C.refused(x, "sketch(-1, 0)", x.sketch(-1, 0), 1);
        C.refused(x, "sketch(0, 1)", x.sketch(0, 1), 1);
        C.due("sketch", x.sketch(0, 0), 7);
        C.due("trouble()", x.trouble(), 0);
        String[] rows = {"77...", "7..22", "...22"};
        for (int y = 0; y < 3; y++) {
            for (int at = 0; at < 5; at++) {
                char c = rows[y].charAt(at);
                C.due("sketched(" + at + ", " + y + ")", x.sketched(at, y), c == '.' ? -2 : c - '0');
            }
        }
        C.due("sketched(5, 0)", x.sketched(5, 0), NONE);
        C.due("sketched(0, 3)", x.sketched(0, 3), NONE);
        C.due("sketched(-1, 1)", x.sketched(-1, 1), NONE);
        C.due("sketched(0, -1)", x.sketched(0, -1), NONE);
        int[] due = {0, 0, 4, 0, 0, 0, 0, 3, 2, 0, 0, NONE};
        for (int what = 0; what < due.length; what++) {
            C.due("sketchOf(" + what + ")", x.sketchOf(what), due[what]);
        }
        C.due("sketchOf(-1)", x.sketchOf(-1), NONE);
        x.sketch(3, 0);
        C.due("a refused one leaves it", x.sketchOf(2), 4);
        x.hole(0, 4, 0, 1, 3);
        C.due("it is as it was made", x.sketchOf(2), 4);
        C.due("now with holes", x.sketch(0, 0), 5);
        C.due("a hole is bare", x.sketched(4, 1), -2);
        Check.draw(x, "disc 1 2 1 0-1; rect 2 0 0 0 5; rect 2 4 4 0-2 1; rect 3 0-2 0-1 3 2; disc 4 2 2 0");
        C.due("none for less than nothing", x.sketch(1, 0), 2);
        C.due("cut at the edge", x.sketched(0, 0), 3);
        C.due("a disc of r 0", x.sketched(2, 2), 4);
        Check.draw(x, "disc 1 2 1 2; rect 6 2 1 1 1");
        x.wall(5, 3, 0, 0);
        C.due("the later is above", x.sketch(2, 1), 11);
        C.due("middle", x.sketched(2, 1), 6);
        C.due("a disc's end", x.sketched(0, 1), 1);
        C.due("beyond it", x.sketched(0, 0), -2);
    }

    /** A number as a sum, since a WHOLE has three digits and no sign. */
    private static String asSum(int v) {
        return (v < 0 ? "0-" : "") + Math.abs(v) / 100 + "*100" + (v < 0 ? "-" : "+") + Math.abs(v) % 100;
    }

    private static void sumIs(String sum, int due) {
        WallHouse x = new WallHouse();
        x.wall(16, 12, 0, 0);
        C.due(sum, Check.draw(x, "if " + sum + "=" + asSum(due) + "[disc 1 0 0 0]"), 0);
        C.due(sum + " = " + due, x.sketch(0, 0), 1);
    }

    private static void sums() {
        C.part("15 sketch: sums");
        sumIs("1+2*3", 7);
        sumIs("(1+2)*3", 9);
        sumIs("10-2-3", 5);
        sumIs("10-(2-3)", 11);
        sumIs("100/7/2", 7);
        sumIs("7/2*2", 6);
        sumIs("2*7/2", 7);
        sumIs("(0-7)/2", -3);
        sumIs("7/(0-2)", -3);
        sumIs("7/0", 0);
        sumIs("wide*high", 192);
        sumIs("wide-high*2", -8);
        sumIs("1+2*(3+4*(5+6*(7-(8-9))))", 2 * (3 + 4 * (5 + 6 * 8)) + 1);
        sumIs("999*999-(999*99-1)", 1);
        sumIs("(0-999)*999+(999*99-1)", -1);
        sumIs("999*10+999-(999*99-1)", 1);
        sumIs("0-999*10-999+(999*99-1)", -1);
        sumIs("(999*99)/3", 3333);
        sumIs("i+j+k+m+n", 0);
    }

    private static void loops() {
        C.part("15 sketch: each and if");
        WallHouse x = new WallHouse();
        x.wall(16, 12, 0, 0);
        Check.draw(x, "each i from 2 to 4[disc 1 i 0 0];disc 2 i 1 0");
        C.due("each", x.sketch(0, 0), 4);
        C.due("a var stays what it was last", x.sketched(4, 1), 2);
        C.due("steps", x.sketchOf(8), 5);
        Check.draw(x, "each i from 4 to 3[disc 1 i 0 0];disc 2 i 1 0");
        C.due("none if to is less", x.sketch(1, 0), 1);
        C.due("its var is as it was", x.sketched(0, 1), 2);
        C.due("steps", x.sketchOf(8), 2);
        Check.draw(x, "each i from 0 to 2[each i from 5 to 6[disc 1 i 0 0]; disc 2 i 1 0]; disc 3 i 2 0");
        C.due("an each within of the same var", x.sketch(2, 0), 4);
        C.due("it goes through all", x.sketchOf(8), 1 + 3 * 4 + 1);
        C.due("what it was last", x.sketched(6, 2), 3);
        Check.draw(x, "each j from 3 to 3[each k from j to j+1[each m from k to k[disc 5 m j 0]]]");
        C.due("from other vars", x.sketch(3, 0), 2);
        C.due("(4, 3)", x.sketched(4, 3), 5);
        Check.draw(x, "each n from 0 to 9[if n<3[disc 1 n 0 0];if n>7[disc 2 n 0 0];if n=5[disc 3 n 0 0]]");
        C.due("if", x.sketch(4, 0), 6);
        C.due("<", x.sketchOf(1), 3);
        C.due(">", x.sketchOf(2), 2);
        C.due("=", x.sketchOf(3), 1);
        C.due("steps of if", x.sketchOf(8), 1 + 30 + 6);
        Check.draw(x, "each i from 0 to i+2[disc 1 i i 0]; each i from 0-2 to 0-1[disc 2 0-i 9 0]");
        C.due("the ends are told once, negative ones too", x.sketch(5, 0), 5);
        C.due("(2, 9)", x.sketched(2, 9), 2);
    }

    private static void spent() {
        C.part("17 sketchOf: spent");
        WallHouse x = new WallHouse();
        x.wall(2, 1, 0, 0);
        Check.draw(x, "each i from 1 to 999[disc 1 0 0 0];each i from 1 to 498[disc 2 0 0 0];disc 3 1 0 0");
        x.sketch(0, 0);
        C.due("1,500 steps", x.sketchOf(8), 1500);
        C.due("not spent by them", x.sketchOf(9), 0);
        C.due("the last was done", x.sketched(1, 0), 3);
        Check.draw(x, "each i from 1 to 999[disc 1 0 0 0];each i from 1 to 499[disc 2 0 0 0];disc 3 1 0 0");
        C.due("what is painted stays", x.sketch(1, 0), 1);
        C.due("1,500 and no more", x.sketchOf(8), 1500);
        C.due("spent", x.sketchOf(9), 1);
        C.due("the 1,501st wasn't done", x.sketched(1, 0), -2);
        Check.draw(x, "each i from 0-999 to 999*99[each j from 0 to 999*99[if i=j+1[disc 1 0 0 0]]]");
        C.due("a very long one", x.sketch(2, 0), 0);
        C.due("spent", x.sketchOf(9), 1);
        x.sketch(0, 0);
        C.due("no more spent", x.sketchOf(9), 0);
    }

    private static void words() {
        C.part("17 sketchOf: bars");
        WallHouse x = new WallHouse();
        x.wall(6, 2, 0, 0);
        Check.bar(x, "no");
        Check.bar(x, "noo");
        Check.bar(x, "no");
        Check.draw(x, "say 4 no 5 1");
        C.due("one letter is on the wall", x.sketch(0, 0), 1);
        C.due("at (5, 1)", x.sketched(5, 1), 4);
        C.due("bars that are this word", x.sketchOf(10), 2);
        Check.draw(x, "say 4 no 6 1; say 4 no 0 2; say 4 no 0-2 0; say 4 no 0 0-1");
        C.due("beside the wall", x.sketch(1, 0), 0);
        C.due("isn't shown", x.sketchOf(10), 0);
        Check.draw(x, "say 4 noo 0-2 0; rect 1 0 0 6 2");
        C.due("painted over", x.sketch(2, 0), 12);
        C.due("is shown all the same", x.sketchOf(10), 1);
        Check.draw(x, "say 4 nooo 0 0; say 4 n 0 0; say 4 on 0 0; if 1 = 2 [ say 4 no 0 0 ]");
        C.due("other words", x.sketch(3, 0), 4);
        C.due("aren't barred", x.sketchOf(10), 0);
        x.hole(0, 5, 1, 1, 1);
        C.due("on a hole", x.sketch(0, 0), 0);
        C.due("it is shown, too", x.sketchOf(10), 2);
        Check.draw(x, "say 1 abcdefgh 0 0; say 2 abcdefgh 0 1");
        C.due("to the right", x.sketch(4, 0), 11);
        C.due("steps", x.sketchOf(8), 2);
        Check.bar(x, "abcdefgh");
        C.due("bars as it was made", x.sketchOf(10), 0);
        x.sketch(4, 0);
        C.due("once for two sayings", x.sketchOf(10), 1);
        x.leave(0, 0, 9, true);
        x.painter(0, 0);
        C.refused(x, "a work that shows it", x.work(0, 0, 4), 5);
        C.refused(x, "a work that shows it on a hole", x.work(0, 0, 0), 5);
        C.due("a work that doesn't", x.work(0, 0, 1), 0);
    }

    private static void unlike() {
        C.part("18 unlike");
        WallHouse x = Check.town(3, 2, 0);
        x.wall(2, 3, 0, 0);
        x.wall(3, 2, 0, 0);
        C.due("ahead of any sketch", x.unlike(0), NONE);
        Check.draw(x, "rect 1 0 0 2 2");
        Check.draw(x, "rect 1 1 0 1 2; rect 3 2 0 1 1");
        x.sketch(0, 0);
        C.due("wall 3", x.unlike(3), NONE);
        C.due("another size", x.unlike(1), NONE);
        C.due("a bare wall", x.unlike(2), 4);
        Check.sunny(x, 0, 3);
        x.work(0, 0, 0);
        C.due("not over yet", x.unlike(0), 4);
        x.pass(4);
        C.due("as painted", x.unlike(0), 0);
        x.sketch(1, 0);
        C.due("bare here, painted there and the other way", x.unlike(0), 3);
        x.themes(9, 9);
        x.unlike(1);
        C.due("it leaves trouble", x.trouble(), 1);
    }

    private static void painters() {
        C.part("19 painter, 20 wish, 22 liked");
        WallHouse x = new WallHouse();
        C.refused(x, "style -1", x.painter(-1, 0), 2);
        C.refused(x, "style 6", x.painter(6, 0), 2);
        C.refused(x, "kin -1", x.painter(0, -1), 2);
        C.refused(x, "kin 100", x.painter(0, 100), 2);
        for (int i = 0; i < 10; i++) {
            C.due("painter " + i, x.painter(i % 6, 99), i);
        }
        C.refused(x, "an 11th", x.painter(0, 0), 3);
        C.refused(x, "an 11th with a wrong number", x.painter(9, 0), 2);
        C.due("count(1)", x.count(1), 10);
        C.denied(x, "no wall", x.wish(0, 0, 99), 1);
        x.wall(1, 1, 0, 0);
        C.denied(x, "no painter", x.wish(10, 0, 1), 1);
        C.denied(x, "wish -1", x.wish(0, 0, -1), 2);
        C.denied(x, "wish 10", x.wish(0, 0, 10), 2);
        C.due("0 until told", x.liked(0, 0), 0);
        C.yes("wish 9", x.wish(0, 0, 9));
        C.due("trouble()", x.trouble(), 0);
        C.due("ten times", x.liked(0, 0), 90);
        x.wish(0, 0, 2);
        C.due("the latest", x.liked(0, 0), 20);
        C.due("of another", x.liked(1, 0), 0);
        C.due("liked(10, 0)", x.liked(10, 0), NONE);
        C.due("liked(0, 1)", x.liked(0, 1), NONE);
        C.due("liked(-1, 0)", x.liked(-1, 0), NONE);
    }

    private static void votes() {
        C.part("21 vote");
        WallHouse x = new WallHouse();
        x.wall(1, 1, 0, 7);
        x.wall(1, 1, 0, 7);
        x.painter(0, 7);
        x.painter(0, 8);
        C.denied(x, "painter 2", x.vote(100, 2, 0, 6), 1);
        C.denied(x, "wall 2", x.vote(0, 0, 2, 0), 1);
        C.denied(x, "neighbour -1", x.vote(-1, 0, 0, 0), 2);
        C.denied(x, "neighbour 100", x.vote(100, 0, 0, 0), 2);
        C.denied(x, "v -1", x.vote(0, 0, 0, -1), 2);
        C.denied(x, "v 6", x.vote(7, 0, 0, 6), 2);
        C.denied(x, "kin", x.vote(7, 0, 0, 5), 5);
        C.denied(x, "kin, 0", x.vote(7, 0, 1, 0), 5);
        C.yes("kin of another", x.vote(7, 1, 0, 5));
        C.yes("a neighbour", x.vote(8, 0, 0, 5));
        C.due("trouble()", x.trouble(), 0);
        C.yes("another", x.vote(99, 0, 0, 3));
        C.yes("on another wall", x.vote(8, 0, 1, 1));
        C.due("liked(0, 0)", x.liked(0, 0), 8);
        C.due("liked(0, 1)", x.liked(0, 1), 1);
        C.due("liked(1, 0)", x.liked(1, 0), 5);
        C.yes("of the last and the first neighbour", x.vote(99, 0, 1, 2) && x.vote(0, 1, 0, 2) && x.vote(0, 0, 1, 4));
        C.due("they are three", x.count(10), 7);
        C.due("liked(0, 1)", x.liked(0, 1), 7);
        C.yes("the latest counts", x.vote(8, 0, 0, 0));
        C.due("liked(0, 0)", x.liked(0, 0), 3);
        C.due("count(10)", x.count(10), 7);
        x.wish(0, 0, 4);
        C.due("with the wish", x.liked(0, 0), 43);
        int told = 7;
        for (int n = 0; n < 100; n++) {
            for (int p = 0; p < 4 && told < 300; p++) {
                int before = x.count(10);
                x.vote(n, p / 2, p % 2, 1);
                told = x.count(10);
                C.yes("no more than one each", told - before <= 1);
            }
        }
        C.due("300", x.count(10), 300);
        C.denied(x, "a 301st", x.vote(98, 1, 1, 1), 3);
        C.denied(x, "of kin first", x.vote(8, 1, 1, 1), 5);
        C.yes("one told anew", x.vote(99, 0, 0, 5));
        C.due("count(10)", x.count(10), 300);
    }

    private static void giving() {
        C.part("23 give, 24 given");
        WallHouse x = Check.openTown(8, 3);
        C.refused(x, "none", x.give(0), 1);
        C.refused(x, "wall 8", x.give(257), 1);
        C.refused(x, "below 0", x.give(-1), 1);
        C.refused(x, "the lowest", x.give(Integer.MIN_VALUE), 1);
        C.refused(x, "7 of them", x.give(127), 6);
        x.leave(7, 1, 9, true);
        C.refused(x, "no leave among many", x.give(255), 5);
        C.refused(x, "no leave", x.give(128), 5);
        C.due("given(0) ahead of any", x.given(0), NONE);
        C.due("nothing is liked", x.give(63), 0);
        C.due("trouble()", x.trouble(), 0);
        C.due("to none", x.given(5), -2);
        C.due("not among them", x.given(6), NONE);
        C.due("given(-1)", x.given(-1), NONE);
        C.due("given(16)", x.given(16), NONE);
        x.wish(0, 1, 5);
        x.wish(0, 2, 6);
        x.vote(1, 2, 1, 5);
        x.vote(2, 2, 1, 4);
        x.wish(2, 2, 1);
        C.due("each painter at most one", x.give(6), 69);
        C.due("given(1)", x.given(1), 2);
        C.due("given(2)", x.given(2), 0);
        C.due("given(0)", x.given(0), NONE);
        x.give(128);
        C.due("a refused one leaves it", x.given(2), 0);
        C.due("for one", x.give(2), 50);
        C.due("given(1)", x.given(1), 0);
        Check.draw(x, "disc 1 0 0 0");
        x.work(1, 1, 0);
        C.refused(x, "a work under way", x.give(2), 5);
        C.due("another wall", x.give(4), 60);
    }

    private static void givingBeside() {
        C.part("23 give: beside");
        WallHouse x = Check.openTown(3, 0);
        x.painter(2, 99);
        x.painter(2, 99);
        x.painter(3, 99);
        x.wish(0, 0, 9);
        x.wish(1, 1, 9);
        x.wish(2, 1, 1);
        C.due("apart", x.give(3), 180);
        x.beside(1, 0, true);
        C.due("beside: one of them alone", x.give(3), 100);
        C.due("given(0)", x.given(0), 0);
        C.due("given(1)", x.given(1), 2);
        C.due("one wall alone", x.give(2), 90);
        Check.draw(x, "disc 1 0 0 0");
        x.work(0, 1, 0);
        C.due("beside a work of that style under way", x.give(2), 10);
        Check.sunny(x, 0, 3);
        x.pass(4);
        C.due("and over", x.give(2), 10);
        C.due("among them it doesn't count", x.give(3), 100);
        x.work(0, 2, 0);
        C.due("the latest work", x.give(2), 90);
        x.beside(0, 1, false);
        C.due("not beside", x.give(2), 90);
        C.due("given(1)", x.given(1), 1);
    }

    private static void givingTies() {
        C.part("23 give: as good ones");
        WallHouse x = Check.openTown(3, 4);
        for (int p = 0; p < 4; p++) {
            for (int w = 0; w < 3; w++) {
                x.wish(p, w, 3);
            }
        }
        C.due("all alike", x.give(7), 90);
        C.due("given(0)", x.given(0), 0);
        C.due("given(1)", x.given(1), 1);
        C.due("given(2)", x.given(2), 2);
        Check.draw(x, "disc 1 0 0 0");
        x.wall(1, 1, 0, 0);
        x.leave(3, 0, 9, true);
        Check.sunny(x, 0, 20);
        x.work(3, 1, 0);
        C.due("fewest works", x.give(7), 90);
        C.due("given(0)", x.given(0), 0);
        C.due("given(1)", x.given(1), 2);
        C.due("given(2)", x.given(2), 3);
        x.pass(4);
        x.work(3, 0, 0);
        x.pass(4);
        x.work(3, 0, 0);
        C.due("fewest in all together", x.give(7), 90);
        C.due("given(0)", x.given(0), 1);
        C.due("given(1)", x.given(1), 2);
        C.due("given(2)", x.given(2), 3);
        WallHouse y = Check.openTown(2, 1);
        y.wish(0, 0, 2);
        y.wish(0, 1, 2);
        C.due("one painter, two walls", y.give(3), 20);
        WallHouse z = Check.openTown(3, 4);
        z.wish(0, 0, 1);
        z.wish(1, 0, 2);
        z.wish(2, 2, 1);
        z.wish(3, 2, 2);
        C.due("a wall that none wants between", z.give(7), 40);
        C.due("given(0)", z.given(0), 1);
        C.due("given(1)", z.given(1), -2);
        C.due("given(2)", z.given(2), 3);
        C.due("none is above all: the first has it", y.given(0), 0);
        C.due("given(1)", y.given(1), -2);
    }

    private static void beginning() {
        C.part("25 work");
        WallHouse x = Check.town(2, 2, 0);
        x.wall(2, 2, 0, 0);
        C.refused(x, "no drawing", x.work(0, 0, 0), 1);
        Check.draw(x, "rect 1 0 0 2 2");
        C.refused(x, "no painter", x.work(0, 1, 0), 1);
        C.refused(x, "no wall", x.work(2, 0, 0), 1);
        C.refused(x, "all below 0", x.work(-1, -1, -1), 1);
        C.refused(x, "no leave", x.work(1, 0, 0), 5);
        C.due("the first", x.work(0, 0, 0), 0);
        C.due("trouble()", x.trouble(), 0);
        C.refused(x, "not over", x.work(0, 0, 0), 5);
        C.due("about(0, 6)", x.about(0, 6), 0);
        C.due("about(0, 9)", x.about(0, 9), -2);
        for (int i = 1; i < 40; i++) {
            Check.sunny(x, x.count(9), x.count(9) + 3);
            C.due("over", x.pass(4), 1);
            C.due("work " + i, x.work(0, 0, 0), i);
        }
        Check.sunny(x, x.count(9), x.count(9) + 3);
        x.pass(4);
        C.refused(x, "a 41st", x.work(0, 0, 0), 3);
        x.leave(0, 9, 9, true);
        C.refused(x, "a 41st without leave", x.work(0, 0, 0), 5);
        C.due("count(4)", x.count(4), 40);
        C.due("count(5)", x.count(5), 40);
        C.due("about(0, 9)", x.about(0, 9), 39);
        C.due("about(0, 6)", x.about(0, 6), -2);
    }

    private static void workStages() {
        C.part("26 workOf");
        WallHouse x = Check.town(5, 5, 0);
        Check.draw(x, "disc 0 0 0 0");
        Check.draw(x, "rect 3 0 0 5 5");
        x.painter(1, 0);
        C.due("none yet", x.workOf(0, 0), NONE);
        x.work(0, 1, 1);
        int[] due = {0, 1, 1, 0, 5, -2, 25, 0, NONE};
        for (int what = 0; what < due.length; what++) {
            C.due("workOf(0, " + what + ")", x.workOf(0, what), due[what]);
        }
        C.due("workOf(0, -1)", x.workOf(0, -1), NONE);
        C.due("workOf(1, 0)", x.workOf(1, 0), NONE);
        C.due("workOf(-1, 0)", x.workOf(-1, 0), NONE);
        int[] stages = {1, 1, 2, 2, 3};
        for (int day = 0; day < 5; day++) {
            x.weather(2 * day, 10, 0);
            C.due("over by day " + day, x.pass(1), day == 4 ? 1 : 0);
            C.due("stage", x.workOf(0, 3), stages[day]);
            C.due("needs yet", x.workOf(0, 4), 4 - day);
            C.due("a day that isn't told brings none on", x.pass(1), 0);
            C.due("stage", x.workOf(0, 3), stages[day]);
        }
        C.due("its day", x.workOf(0, 5), 8);
        C.due("cells", x.workOf(0, 6), 25);
        C.due("lacking", x.workOf(0, 7), 25);
        x.hole(0, 0, 0, 1, 1);
        C.due("cells stay", x.workOf(0, 6), 25);
    }

    private static void coats() {
        C.part("26 workOf: coat days");
        int[] cells = {0, 1, 24, 25, 48, 49, 192};
        int[] days = {1, 1, 1, 2, 2, 3, 8};
        for (int i = 0; i < cells.length; i++) {
            WallHouse x = Check.town(16, 12, 0);
            Check.draw(x, "rect 1 0 0 16 " + cells[i] / 16 + ";rect 1 0 " + cells[i] / 16 + " " + cells[i] % 16 + " 1");
            x.work(0, 0, 0);
            C.due("cells", x.workOf(0, 6), cells[i]);
            C.due("needs of " + cells[i], x.workOf(0, 4), 3 + days[i]);
        }
    }

    private static void liftsByNumber() {
        C.part("28 lifts");
        WallHouse x = Check.openTown(4, 1);
        Check.draw(x, "disc 1 0 0 0");
        C.denied(x, "lifts(0)", x.lifts(0), 2);
        C.denied(x, "lifts(6)", x.lifts(6), 2);
        for (int i = 0; i < 4; i++) {
            x.work(3 - i, 0, 0);
        }
        Check.sunny(x, 0, 30);
        int[][] stages = {{1, 1, 0, 0}, {1, 1, 1, 1}, {2, 2, 1, 1}, {3, 3, 2, 2}, {3, 3, 3, 3}};
        int[] ends = {3, 3, 4, 4};
        for (int i = 0; i < 4; i++) {
            C.due("two at first: end(" + i + ")", x.end(i), ends[i]);
        }
        for (int day = 0; day < 5; day++) {
            x.pass(1);
            for (int i = 0; i < 4; i++) {
                C.due("day " + day + ", work " + i, x.workOf(i, 3), stages[day][i]);
            }
        }
        WallHouse y = Check.openTown(3, 1);
        Check.draw(y, "disc 1 0 0 0");
        for (int i = 0; i < 3; i++) {
            y.work(i, 0, 0);
        }
        Check.sunny(y, 0, 30);
        C.yes("one lift", y.lifts(1));
        C.due("trouble()", y.trouble(), 0);
        C.due("end(0)", y.end(0), 3);
        C.due("end(1)", y.end(1), 4);
        C.due("end(2)", y.end(2), 5);
        y.lifts(5);
        C.due("five lifts", y.end(2), 3);
    }

    private static void foretelling() {
        C.part("29 end, 30 ready");
        WallHouse x = Check.openTown(3, 1);
        Check.draw(x, "disc 1 0 0 0");
        C.due("end of none", x.end(0), NONE);
        x.work(0, 0, 0);
        x.work(1, 0, 0);
        x.work(2, 0, 0);
        C.due("not enough days", x.end(0), -2);
        Check.sunny(x, 5, 8);
        C.due("end(0)", x.end(0), 8);
        C.due("end(2)", x.end(2), -2);
        C.due("ready(7)", x.ready(7), 0);
        C.due("ready(8)", x.ready(8), 2);
        C.due("ready(3649)", x.ready(3649), 2);
        C.due("ready(3650)", x.ready(3650), NONE);
        C.due("ready(-1)", x.ready(-1), NONE);
        x.weather(3649, 10, 0);
        C.due("the last day", x.end(2), 3649);
        C.due("ready(3648)", x.ready(3648), 2);
        C.due("ready(3649)", x.ready(3649), 3);
        x.weather(6, 10, 1);
        C.due("told anew", x.end(0), 3649);
        C.due("nothing went by", x.workOf(0, 4), 4);
        x.weather(6, 10, 0);
        x.pass(9);
        C.due("its day, as it is over", x.end(0), 8);
        C.due("ready: not those over", x.ready(3649), 1);
        C.due("ready: a day that is gone", x.ready(8), NONE);
        C.due("ready: today", x.ready(9), 0);
        C.due("end(-1)", x.end(-1), NONE);
        C.due("end(3)", x.end(3), NONE);
    }

    private static void weather() {
        C.part("27 weather");
        WallHouse x = Check.town(1, 1, 0);
        Check.draw(x, "disc 1 0 0 0");
        x.work(0, 0, 0);
        C.denied(x, "day -1", x.weather(-1, 0, 0), 2);
        C.denied(x, "day 3650", x.weather(3650, 0, 0), 2);
        C.denied(x, "degrees -41", x.weather(0, -41, 0), 2);
        C.denied(x, "degrees 51", x.weather(0, 51, 0), 2);
        C.denied(x, "rain -1", x.weather(0, 0, -1), 2);
        C.denied(x, "rain 201", x.weather(0, 0, 201), 2);
        C.yes("-40, 200", x.weather(3649, -40, 200));
        C.due("trouble()", x.trouble(), 0);
        C.yes("50, 0", x.weather(0, 50, 0));
        C.yes("10, 0", x.weather(1, 10, 0));
        C.yes("9, 0", x.weather(2, 9, 0));
        C.yes("20, 1", x.weather(3, 20, 1));
        C.yes("10, 0", x.weather(4, 10, 0));
        C.yes("10, 0", x.weather(32, 10, 0));
        C.due("good ones alone", x.end(0), 32);
        x.pass(1);
        C.denied(x, "yesterday", x.weather(0, 20, 0), 2);
        C.yes("today", x.weather(1, 20, 0));
    }

    private static void tins() {
        C.part("31 tin, 32 left, 46 shows");
        WallHouse x = Check.town(4, 2, 0);
        C.refused(x, "colour -1", x.tin(-1, 1), 2);
        C.refused(x, "colour 8", x.tin(8, 1), 2);
        C.refused(x, "cells 0", x.tin(0, 0), 2);
        C.refused(x, "cells 1000", x.tin(0, 1000), 2);
        C.due("left of none", x.left(0), NONE);
        C.due("shows of none", x.shows(0), NONE);
        C.due("the first", x.tin(2, 3), 0);
        C.due("trouble()", x.trouble(), 0);
        C.due("left(0)", x.left(0), 3);
        C.due("left(-1)", x.left(-1), NONE);
        x.tin(1, 1);
        x.tin(2, 1);
        x.tin(1, 999);
        Check.draw(x, "rect 2 0 0 4 2; rect 1 1 0 2 1");
        x.work(0, 0, 0);
        Check.sunny(x, 0, 3);
        x.pass(3);
        C.due("not used yet", x.left(0), 3);
        x.pass(1);
        int[] left = {0, 0, 0, 998};
        int[] shown = {3, 1, 1, 1};
        for (int t = 0; t < 4; t++) {
            C.due("left(" + t + ")", x.left(t), left[t]);
            C.due("shows(" + t + ")", x.shows(t), shown[t]);
        }
        int[] due = {0, 1, 3, 0, 0, 2, -2, -2};
        for (int c = 0; c < 8; c++) {
            C.due("led(" + c + ", 2)", x.led(0, c % 4, c / 4, 2), due[c]);
        }
        C.due("lacking", x.workOf(0, 7), 2);
        x.hole(0, 1, 0, 2, 1);
        C.due("shows less by a hole", x.shows(1), 0);
        C.due("left stays", x.left(1), 0);
        for (int i = 4; i < 60; i++) {
            C.due("tin " + i, x.tin(7, 999), i);
        }
        C.refused(x, "a 61st", x.tin(7, 1), 3);
        C.refused(x, "a 61st with a wrong number", x.tin(8, 1), 2);
        C.due("count(6)", x.count(6), 60);
        C.due("left(60)", x.left(60), NONE);
        C.due("shows(59)", x.shows(59), 0);
        tinsOfTwoWorks();
    }

    private static void tinsOfTwoWorks() {
        WallHouse x = Check.openTown(2, 1);
        Check.draw(x, "disc 1 0 0 0");
        x.tin(1, 1);
        x.work(1, 0, 0);
        x.work(0, 0, 0);
        Check.sunny(x, 0, 3);
        C.due("two on one day", x.pass(100), 2);
        C.due("the lesser number has the tin", x.workOf(0, 7), 0);
        C.due("the other lacks", x.workOf(1, 7), 1);
        C.due("led on wall 1", x.led(1, 0, 0, 2), 0);
        C.due("led on wall 0", x.led(0, 0, 0, 2), -2);
    }

    private static void passing() {
        C.part("33 pass");
        WallHouse x = new WallHouse();
        C.refused(x, "pass(0)", x.pass(0), 2);
        C.refused(x, "pass(-1)", x.pass(-1), 2);
        C.refused(x, "pass(101)", x.pass(101), 2);
        C.due("pass(100)", x.pass(100), 0);
        C.due("trouble()", x.trouble(), 0);
        C.due("today", x.count(9), 100);
        Check.passTo(x, 3600);
        C.refused(x, "pass(50)", x.pass(50), 2);
        C.due("it stays", x.count(9), 3600);
        C.due("pass(49)", x.pass(49), 0);
        C.due("the last day", x.count(9), 3649);
        C.refused(x, "pass(1)", x.pass(1), 2);
        C.due("about the last year", x.wall(1, 1, 0, 0), 0);
        x.leave(0, 9, 9, true);
        C.due("year 9", x.about(0, 4), 1);
    }

    private static void replacing() {
        C.part("34 cell");
        WallHouse x = Check.town(2, 1, 0);
        Check.draw(x, "disc 5 0 0 0");
        Check.draw(x, "disc 6 1 0 0");
        C.due("cell(1, 0, 0)", x.cell(1, 0, 0), NONE);
        C.due("cell(0, 2, 0)", x.cell(0, 2, 0), NONE);
        C.due("cell(0, 0, 1)", x.cell(0, 0, 1), NONE);
        C.due("cell(0, -1, 0)", x.cell(0, -1, 0), NONE);
        C.due("bare", x.cell(0, 0, 0), -2);
        Check.sunny(x, 0, 7);
        x.tin(5, 1);
        x.work(0, 0, 0);
        x.pass(3);
        C.due("not yet", x.cell(0, 0, 0), -2);
        x.pass(1);
        C.due("painted", x.cell(0, 0, 0), 5);
        C.due("about(0, 8)", x.about(0, 8), 1);
        x.work(0, 0, 1);
        x.pass(3);
        C.due("still as it was", x.cell(0, 0, 0), 5);
        C.due("the one that isn't over", x.about(0, 6), 1);
        C.due("the one that is", x.about(0, 9), 0);
        x.pass(1);
        C.due("in place of what was", x.cell(0, 0, 0), -2);
        C.due("what is new", x.cell(0, 1, 0), 6);
        C.due("about(0, 8)", x.about(0, 8), 1);
        C.due("about(0, 9)", x.about(0, 9), 1);
        C.due("the tin's cell is gone", x.shows(0), 0);
        C.due("its paint, too", x.left(0), 0);
        x.hole(0, 1, 0, 1, 1);
        C.due("a hole is bare", x.cell(0, 1, 0), -2);
    }

    private static void looks() {
        C.part("35 looks");
        int[] fades = {1, 2, 3, 2};
        for (int side = 0; side < 4; side++) {
            WallHouse x = Check.town(2, 1, side);
            Check.draw(x, "disc 4 0 0 0; disc 5 1 0 0");
            C.due("looks(1, 0)", x.looks(1, 0), NONE);
            C.due("looks(0, 8)", x.looks(0, 8), NONE);
            C.due("looks(0, -1)", x.looks(0, -1), NONE);
            Check.sunny(x, 0, 3);
            x.work(0, 0, 0);
            C.due("not over", x.looks(0, 4), -2);
            x.pass(4);
            C.due("new", x.looks(0, 0), 100);
            Check.passTo(x, 3 + 29);
            C.due("29 days", x.looks(0, 5), 100);
            x.pass(1);
            C.due("30 days", x.looks(0, 4), 100 - fades[side]);
            C.due("30 days, above 4", x.looks(0, 5), 99 - fades[side]);
            Check.passTo(x, 3 + 300);
            C.due("300 days", x.looks(0, 7), 100 - 10 * (fades[side] + 1));
            Check.passTo(x, 3630);
            C.due("0 at least", x.looks(0, 4), Math.max(0, 100 - 120 * fades[side]));
        }
    }

    private static void pale() {
        C.part("36 pale");
        WallHouse x = Check.town(3, 1, 2);
        x.wall(1, 1, 0, 0);
        Check.draw(x, "disc 4 0 0 1; disc 5 2 0 0");
        Check.draw(x, "disc 4 9 9 0");
        C.refused(x, "pale(-1)", x.pale(-1), 2);
        C.refused(x, "pale(101)", x.pale(101), 2);
        C.due("none is painted", x.pale(100), 0);
        C.due("trouble()", x.trouble(), 0);
        Check.sunny(x, 0, 3);
        x.work(0, 0, 0);
        x.leave(1, 0, 9, true);
        x.work(1, 0, 1);
        x.pass(4);
        C.due("two over", x.count(5), 2);
        C.due("new", x.pale(100), 0);
        Check.passTo(x, 33);
        // 97, 97 and 96: 290 / 3 is 96
        C.due("by 96", x.pale(96), 0);
        C.due("by 97", x.pale(97), 1);
        C.due("by 0", x.pale(0), 0);
        Check.passTo(x, 3600);
        C.due("gone", x.pale(1), 1);
        C.due("never below 0", x.pale(0), 0);
    }

    private static void tags() {
        C.part("37 tag, 38 clean, 39 late");
        WallHouse x = new WallHouse();
        C.refused(x, "no wall", x.tag(0, 0), 1);
        x.wall(1, 1, 0, 0);
        C.refused(x, "within 0", x.tag(0, 0), 2);
        C.refused(x, "within 31", x.tag(0, 31), 2);
        C.due("the first", x.tag(0, 1), 0);
        C.due("trouble()", x.trouble(), 0);
        C.due("another", x.tag(0, 30), 1);
        x.tag(0, 1);
        x.tag(0, 2);
        C.denied(x, "clean(-1)", x.clean(-1), 1);
        C.denied(x, "clean(4)", x.clean(4), 1);
        x.pass(1);
        C.due("the last day is in time", x.late(), 0);
        C.yes("clean", x.clean(0));
        C.due("trouble()", x.trouble(), 0);
        C.denied(x, "again", x.clean(0), 5);
        x.pass(1);
        C.due("one is late", x.late(), 1);
        x.clean(2);
        C.due("cleaned too late", x.late(), 1);
        x.pass(1);
        C.due("another is late", x.late(), 2);
        for (int i = 4; i < 100; i++) {
            C.due("tag " + i, x.tag(0, 30), i);
        }
        C.refused(x, "a 101st", x.tag(0, 30), 3);
        C.refused(x, "a 101st with a wrong number", x.tag(0, 0), 2);
        C.due("count(7)", x.count(7), 100);
        C.due("all tags of a wall or none", x.round(600), 0);
    }

    private static void rounds() {
        C.part("40 round");
        WallHouse x = new WallHouse();
        C.refused(x, "round(-1)", x.round(-1), 2);
        C.refused(x, "round(601)", x.round(601), 2);
        C.refused(x, "no wall 0", x.round(600), 1);
        for (int i = 0; i < 5; i++) {
            x.wall(1, 1, 0, 0);
        }
        C.due("no tag", x.round(600), 0);
        C.due("trouble()", x.trouble(), 0);
        x.tag(0, 9);
        x.tag(3, 5);
        x.tag(2, 5);
        x.tag(2, 20);
        x.tag(1, 5);
        x.minutes(0, 2, 7);
        x.minutes(0, 3, 8);
        x.minutes(0, 1, 8);
        x.minutes(2, 3, 4);
        x.minutes(2, 1, 4);
        C.due("26 aren't enough for wall 2", x.round(26), 0);
        C.due("wall 2, and its later tag", x.round(27), 2);
        C.denied(x, "cleaned", x.clean(3), 5);
        C.due("from wall 0 anew: the lesser number", x.round(18), 1);
        C.denied(x, "wall 1", x.clean(4), 5);
        C.due("wall 3 first, its day is less", x.round(17), 0);
        C.due("then back to wall 0", x.round(18 + 18), 2);
        C.due("all clean", x.round(600), 0);
        x.tag(0, 3);
        C.due("where it stands: no way", x.round(10), 1);
        x.tag(4, 3);
        C.due("60 until told", x.round(69), 0);
        C.due("60 and 10", x.round(70), 1);
        x.tag(1, 2);
        x.tag(2, 4);
        x.tag(4, 30);
        x.minutes(1, 2, 120);
        x.minutes(1, 4, 1);
        C.due("the day counts ahead of the way", x.round(8 + 10 + 120 + 9), 1);
    }

    private static void trails() {
        C.part("41 themes, 42 trail, 43 trailOf");
        WallHouse x = new WallHouse();
        C.denied(x, "no wall", x.themes(0, -1), 1);
        C.refused(x, "trail(-1)", x.trail(-1), 2);
        C.refused(x, "trail(1024)", x.trail(1024), 2);
        for (int i = 0; i < 11; i++) {
            x.wall(1, 1, 0, 0);
        }
        C.denied(x, "themes -1", x.themes(0, -1), 2);
        C.denied(x, "themes 1024", x.themes(0, 1024), 2);
        C.due("no theme anywhere", x.trail(1023), -2);
        C.due("trouble()", x.trouble(), 0);
        C.due("trailOf()", x.trailOf(), NONE);
        x.themes(1, 1);
        x.themes(2, 1);
        C.due("one wall", x.trail(1023), 0);
        C.due("the lesser number", x.trailOf(), 2);
        C.due("none wanted", x.trail(0), -2);
        C.due("it stays", x.trailOf(), 2);
        x.themes(1, 5);
        x.themes(3, 2);
        x.minutes(2, 3, 59);
        C.due("a shorter way", x.trail(3), 59);
        C.due("trailOf()", x.trailOf(), 12);
        C.due("with the third theme", x.trail(7), 60);
        C.due("trailOf()", x.trailOf(), 10);
        x.minutes(1, 2, 1);
        C.due("as short ones with fewest walls", x.trail(7), 60);
        C.due("trailOf()", x.trailOf(), 10);
        x.minutes(2, 3, 58);
        C.due("over a third wall", x.trail(7), 59);
        C.due("trailOf()", x.trailOf(), 14);
        x.trail(8);
        C.due("-2 leaves it", x.trailOf(), 14);
        x.trail(2000);
        C.due("a refused one leaves it", x.trailOf(), 14);
        for (int i = 0; i < 9; i++) {
            x.themes(i, 512);
        }
        C.due("nine walls", x.trail(512), 0);
        C.due("trailOf()", x.trailOf(), 1);
        x.themes(10, 512);
        C.refused(x, "ten walls", x.trail(513), 6);
        C.due("those with other themes don't count", x.trail(1), -2);
        x.themes(10, 0);
        C.due("nine again", x.trail(1023), 0);
        for (int i = 0; i < 9; i++) {
            x.themes(i, 1 << i);
            x.minutes(i, i + 1, 2);
        }
        C.due("over all nine", x.trail(1023), 16);
        C.due("trailOf()", x.trailOf(), 511);
    }

    private static void led() {
        C.part("45 led");
        WallHouse x = Check.town(2, 2, 0);
        x.painter(1, 0);
        Check.draw(x, "rect 3 0 0 2 1");
        Check.sunny(x, 0, 7);
        C.due("bare", x.led(0, 0, 0, 0), NONE);
        x.work(0, 0, 0);
        x.pass(4);
        x.tin(3, 1);
        x.work(0, 1, 0);
        x.pass(4);
        C.due("the work", x.led(0, 0, 0, 0), 1);
        C.due("the painter", x.led(0, 0, 0, 1), 1);
        C.due("the tin", x.led(0, 0, 0, 2), 0);
        C.due("of no tin", x.led(0, 1, 0, 2), -2);
        C.due("what 3", x.led(0, 0, 0, 3), NONE);
        C.due("what -1", x.led(0, 0, 0, -1), NONE);
        C.due("bare", x.led(0, 0, 1, 0), NONE);
        C.due("bare, the tin", x.led(0, 0, 1, 2), NONE);
        C.due("led(0, 2, 0, 0)", x.led(0, 2, 0, 0), NONE);
        C.due("led(0, 0, 2, 0)", x.led(0, 0, 2, 0), NONE);
        C.due("led(1, 0, 0, 0)", x.led(1, 0, 0, 0), NONE);
        x.hole(0, 0, 0, 1, 1);
        C.due("a hole", x.led(0, 0, 0, 0), NONE);
    }

    private static void counts() {
        C.part("47 count");
        WallHouse x = Check.town(1, 1, 0);
        x.painter(0, 0);
        for (int i = 0; i < 3; i++) {
            Check.draw(x, "disc 1 0 0 0");
        }
        for (int i = 0; i < 4; i++) {
            Check.bar(x, "a");
        }
        Check.sunny(x, 0, 3);
        x.work(0, 0, 0);
        x.pass(4);
        x.work(0, 0, 0);
        for (int i = 0; i < 6; i++) {
            x.tin(0, 1);
        }
        for (int i = 0; i < 7; i++) {
            x.tag(0, 1);
        }
        for (int i = 0; i < 5; i++) {
            Check.right(x, "town rest");
        }
        x.pass(5);
        for (int i = 0; i < 10; i++) {
            x.vote(i, 0, 0, 1);
        }
        x.feed(0, 0, 0, 0, 0);
        int[] due = {1, 2, 3, 4, 2, 1, 6, 7, 5, 9, 10, 20, NONE};
        for (int what = 0; what < due.length; what++) {
            C.due("count(" + what + ")", x.count(what), due[what]);
        }
        C.due("count(-1)", x.count(-1), NONE);
    }

    private static void troubles() {
        C.part("48 trouble");
        WallHouse x = Check.town(1, 1, 0);
        x.wall(0, 0, 0, 0);
        x.about(0, 0);
        x.about(9, 9);
        x.sketched(0, 0);
        x.sketchOf(99);
        x.unlike(9);
        x.liked(9, 9);
        x.given(9);
        x.workOf(9, 9);
        x.end(9);
        x.ready(9999);
        x.left(9);
        x.cell(9, 9, 9);
        x.looks(9, 9);
        x.led(9, 9, 9, 9);
        x.shows(9);
        x.count(99);
        x.late();
        x.trailOf();
        x.fault();
        x.where();
        C.due("calls that only ask leave it", x.trouble(), 2);
        x.pale(1);
        C.due("0 it wasn't", x.trouble(), 0);
        C.due("it is told again", x.trouble(), 0);
    }

    /** Everything at its bound: no call may fail there. */
    private static void fullHouse() {
        C.part("I bounds");
        WallHouse x = new WallHouse();
        for (int i = 0; i < 16; i++) {
            x.wall(16, 12, i % 4, i);
            x.leave(i, 0, 9, true);
        }
        for (int i = 0; i < 10; i++) {
            x.painter(i % 6, 99);
            x.wish(i, 15, i);
        }
        for (int i = 0; i < 12; i++) {
            Check.draw(x, "rect 7 0 0 2 1");
            Check.bar(x, "bar");
        }
        for (int i = 0; i < 8; i++) {
            Check.right(x, Check.times("town 12%,", 7) + "town rest");
        }
        for (int i = 0; i < 60; i++) {
            x.tin(i == 59 ? 7 : 1, 3);
        }
        for (int i = 0; i < 100; i++) {
            x.tag(i % 2 * 15, 1 + i % 30);
        }
        C.yes("five lifts", x.lifts(5));
        Check.sunny(x, 0, 35);
        for (int i = 0; i < 40; i++) {
            if (i % 16 == 0) {
                x.pass(12);
            }
            C.due("work " + i, x.work(i % 16, i % 10, 11), i);
        }
        C.due("works over", x.count(5), 32);
        C.due("no day is told for it", x.end(39), -2);
        C.due("of those under way there is one on wall 7", x.about(7, 6), 39);
        C.due("give the upper walls", x.give(0xfc00), 90);
        C.due("given(15)", x.given(15), 9);
        C.due("given(10)", x.given(10), -2);
        C.due("ready(3649)", x.ready(3649), 0);
        C.due("left of the only tin", x.left(59), 0);
        C.due("it is painted over", x.shows(59), 0);
        C.due("of no tin", x.led(15, 0, 0, 2), -2);
        C.due("gets of the last right", x.gets(7, 1000, 2), 1000);
        C.due("late", x.late(), late(36));
        C.due("a round has no time for a wall of 50", x.round(499), 0);
        C.due("one of them", x.round(600), 50);
        C.due("late all the same", x.late(), late(36));
        C.due("sketch", x.sketch(11, 15), 2);
        C.due("no bar", x.sketchOf(10), 0);
        C.due("pale", x.pale(100), 0);
    }

    private static int late(int today) {
        int found = 0;
        for (int i = 0; i < 100; i++) {
            found += today > 1 + i % 30 ? 1 : 0;
        }
        return found;
    }
}
