/** Promises 15 to 18: what a drawing paints. */
final class SketchBounds extends Bounds {
    SketchBounds(Check c, Sentences s) {
        super(c, s);
    }

    @Override
    void run() {
        sketchRefused();
        sketchNow();
        sketchedBeyond();
        sketchOfOthers();
        aheadOfAny();
        areas();
        barsAsMade();
        unlikeSizes();
        unlikeCells();
        bareAtFirst();
        stepByStep();
        varsAtFirst();
        eachEnds();
        eachVars();
        ifs();
        bounds();
        boundsOfEachSign();
        division();
        rects();
        discs();
        discRims();
        says();
        holesStayBare();
        stepsDone();
        spent();
        shown();
        shownWords();
    }

    private void sketchRefused() {
        s.promise(15, "how many CELLS. NONE (1).");
        WallHouse x = new WallHouse();
        c.refused(x, "neither is there", x.sketch(0, 0), 1);
        x.wall(3, 2, 0, 0);
        c.refused(x, "no drawing", x.sketch(0, 0), 1);
        Check.draw(x, "rect 5 0 0 2 2");
        c.due("four cells", x.sketch(0, 0), 4);
        c.due("trouble()", x.trouble(), 0);
        for (int n : new int[] {MIN, -1, 1, 12, MAX}) {
            c.refused(x, "drawing " + n, x.sketch(n, 0), 1);
            c.refused(x, "wall " + n, x.sketch(0, n), 1);
        }
        c.due("a refused one leaves it", x.sketchOf(5), 4);
        Check.draw(x, "disc 1 9 9 0");
        c.due("no cell at all", x.sketch(1, 0), 0);
        c.due("isn't refused", x.trouble(), 0);
        Check.draw(x, "rect 5 0 0 wide high");
        x.wall(16, 12, 0, 0);
        c.due("every cell", x.sketch(2, 1), 192);
    }

    private void sketchNow() {
        s.promise(15, "A DRAWING as it would be PAINTED on a WALL now");
        WallHouse x = new WallHouse();
        x.wall(3, 1, 0, 0);
        Check.draw(x, "rect 5 0 0 wide 1");
        x.sketch(0, 0);
        x.hole(0, 1, 0, 1, 1);
        c.due("a later hole isn't in it", x.sketched(1, 0), 5);
        c.due("made anew it is", x.sketch(0, 0), 2);
        c.due("bare there", x.sketched(1, 0), -2);
        c.due("the wall has none of it", x.about(0, 8), 0);
        x.wall(5, 2, 0, 0);
        x.sketch(0, 1);
        c.due("of the latest wall", x.sketched(4, 0), 5);
        c.due("without the other's hole", x.sketched(1, 0), 5);
        c.due("of its second row", x.sketched(4, 1), -2);
    }

    private void sketchedBeyond() {
        s.promise(16, "-2 if it is bare; NONE.");
        WallHouse x = new WallHouse();
        c.due("ahead of any", x.sketched(0, 0), NONE);
        x.wall(3, 2, 0, 0);
        c.due("ahead of any, with a wall", x.sketched(0, 0), NONE);
        Check.draw(x, "disc 0 2 1 0");
        x.sketch(0, 0);
        c.due("colour 0", x.sketched(2, 1), 0);
        c.due("bare", x.sketched(0, 0), -2);
        int[][] beyond = {{-1, 0}, {0, -1}, {3, 0}, {0, 2}, {3, 1}, {2, 2}, {-1, 1}, {5, 0}, {MIN, 0}, {0, MIN}, {MAX, 0}, {0, MAX}};
        for (int[] at : beyond) {
            c.due("sketched(" + at[0] + ", " + at[1] + ")", x.sketched(at[0], at[1]), NONE);
        }
        x.wall(2, 2, 0, 0);
        x.sketch(0, 1);
        c.due("beyond the smaller one", x.sketched(2, 1), NONE);
    }

    private void sketchOfOthers() {
        s.promise(17, "what 0 .. 7 the AREA of a COLOUR, 8 STEPS done, 9 whether it was SPENT (1)");
        WallHouse x = new WallHouse();
        x.wall(3, 2, 0, 0);
        Check.draw(x, "disc 0 2 1 0;disc 7 0 0 0;disc 7 1 0 0");
        x.sketch(0, 0);
        int[] due = {1, 0, 0, 0, 0, 0, 0, 2, 3, 0, 0};
        for (int what = 0; what < due.length; what++) {
            c.due("sketchOf(" + what + ")", x.sketchOf(what), due[what]);
        }
        for (int what : new int[] {MIN, -2, -1, 11, 12, MAX}) {
            c.due("sketchOf(" + what + ")", x.sketchOf(what), NONE);
        }
    }

    private void aheadOfAny() {
        s.promise(17, "NONE (also ahead of any).");
        WallHouse x = new WallHouse();
        x.wall(1, 1, 0, 0);
        Check.draw(x, DOT);
        x.sketch(1, 0);
        for (int what = -1; what <= 11; what++) {
            c.due("sketchOf(" + what + ")", x.sketchOf(what), NONE);
        }
        x.leave(0, 0, 9, true);
        x.painter(0, 0);
        c.due("a work", x.work(0, 0, 0), 0);
        c.due("isn't a sketch", x.sketchOf(8), NONE);
    }

    private void areas() {
        s.term("III", "AREA of a COLOUR: its CELLS.");
        WallHouse x = new WallHouse();
        x.wall(8, 2, 0, 0);
        Check.draw(x, "each i from 0 to 2[rect 1 i 0 1 1];rect 2 1 0 2 2;rect 2 1 0 2 2;rect 3 2 1 9 9");
        x.sketch(0, 0);
        c.due("what is painted over doesn't count", x.sketchOf(1), 1);
        c.due("a cell counts once", x.sketchOf(2), 3);
        c.due("what is beyond doesn't count", x.sketchOf(3), 6);
        c.due("bare ones are no colour", x.sketchOf(0), 0);
    }

    private void barsAsMade() {
        s.promise(17, "10 how many BARS are SHOWN (of those that there were as it was made)");
        WallHouse x = new WallHouse();
        x.wall(2, 1, 0, 0);
        Check.draw(x, "say 1 no 0 0");
        x.sketch(0, 0);
        c.due("none is told", x.sketchOf(10), 0);
        Check.bar(x, "no");
        c.due("told since", x.sketchOf(10), 0);
        x.sketch(0, 0);
        c.due("made since", x.sketchOf(10), 1);
    }

    private void unlikeSizes() {
        s.promise(18, "NONE: no such WALL, another size.");
        WallHouse x = new WallHouse();
        c.due("no wall", x.unlike(0), NONE);
        x.wall(3, 2, 0, 0);
        x.wall(2, 3, 0, 0);
        x.wall(3, 1, 0, 0);
        x.wall(2, 2, 0, 0);
        x.wall(6, 1, 0, 0);
        x.wall(3, 2, 3, 9);
        c.due("ahead of any sketch", x.unlike(0), NONE);
        Check.draw(x, DOT);
        x.sketch(0, 0);
        for (int wall : new int[] {MIN, -1, 6, 16, MAX}) {
            c.due("unlike(" + wall + ")", x.unlike(wall), NONE);
        }
        for (int wall = 1; wall < 5; wall++) {
            c.due("another size", x.unlike(wall), NONE);
        }
        c.due("its own wall", x.unlike(0), 1);
        c.due("another of its size", x.unlike(5), 1);
    }

    private void unlikeCells() {
        s.promise(18, "have another COLOUR (or none) than a WALL now has there");
        WallHouse x = Check.town(4, 1, 0);
        Check.draw(x, "rect 1 0 0 2 1;disc 2 2 0 0");
        Check.draw(x, "rect 1 1 0 3 1");
        x.work(0, 0, 0);
        x.sketch(0, 0);
        c.due("not over yet", x.unlike(0), 3);
        finish(x);
        c.due("alike", x.unlike(0), 0);
        x.sketch(1, 0);
        c.due("bare here, another, bare there", x.unlike(0), 3);
        x.hole(0, 1, 0, 1, 1);
        c.due("a hole since", x.unlike(0), 4);
        x.sketch(1, 0);
        c.due("bare in both", x.unlike(0), 3);
    }

    private void bareAtFirst() {
        s.term("III", "STEP by STEP on CELLS that are bare (NONE) at first");
        WallHouse x = Check.town(3, 1, 0);
        Check.draw(x, "rect 1 0 0 3 1");
        Check.draw(x, "disc 2 1 0 0");
        x.sketch(0, 0);
        c.due("not what was sketched ahead", x.sketch(1, 0), 1);
        x.work(0, 0, 0);
        finish(x);
        c.due("nor what the wall has", x.sketch(1, 0), 1);
        c.due("bare", x.sketched(0, 0), -2);
    }

    private void stepByStep() {
        s.term("III", "STEP by STEP");
        paints("rect 1 0 0 3 1;disc 2 1 0 0;say 3 ab 1 0", "133");
        paints("say 3 ab 1 0;disc 2 1 0 0;rect 1 0 0 2 1", "113");
    }

    private void varsAtFirst() {
        s.term("III", "VARS are 0 at first and stay what they were last");
        paints("rect 1 i+j+k+m+n 0 1 1", "1..");
        for (char v : "ijkmn".toCharArray()) {
            paints("each " + v + " from 0 to 2[disc 1 3 0 0];disc 2 " + v + " 0 0", "..21");
        }
        WallHouse x = new WallHouse();
        x.wall(3, 1, 0, 0);
        Check.draw(x, "disc 1 i 0 0;each i from 1 to 2[disc 2 i 0 0]");
        x.sketch(0, 0);
        x.sketch(0, 0);
        rowsAre(x, "0 again for the next sketch", "122");
    }

    private void eachEnds() {
        s.term("III", "each goes through from .. to (none if to is less)");
        paints("each i from 1 to 1[disc 1 i 0 0]", ".1.");
        paints("each i from 1 to 0[disc 1 i 0 0]", "...");
        paints("each i from 2 to 0[disc 1 i 0 0]", "...");
        paints("each i from 0-1 to 1[disc 1 i+1 0 0]", "111");
        paints("each i from 0-2 to 0-2[disc 1 0-i 0 0]", "..1");
        paints("each i from 0-1 to 0-2[disc 1 0-i 0 0]", "...");
        paints("each i from 99*99+198 to 99*999[disc 1 i-99*101+1 0 0]", ".1.");
        paints("each i from 0-99*999 to 0-99*99-198[disc 1 i+99*101 0 0]", "1..");
        WallHouse x = new WallHouse();
        x.wall(1, 1, 0, 0);
        Check.draw(x, "each i from 1 to 0[disc 1 0 0 0]");
        x.sketch(0, 0);
        c.due("an each that does none is a step", x.sketchOf(8), 1);
    }

    private void eachVars() {
        s.term("III", "its VAR being each of them");
        paints("each i from 3 to 4[disc 1 i 0 0];each i from 1 to 0[disc 1 0 0 0];disc 2 i+1 0 0", "...112");
        paints("each i from 0 to 1[each i from 3 to 4[disc 1 i 0 0];disc 2 5 0 0];disc 3 i-4 0 0", "3..112");
        paints("each i from 0 to 2[disc 1 i 0 0;each i from 4 to 4[disc 2 i 0 0]]", "111.2.");
        paints("each i from 0 to i+1[disc 1 i 0 0]", "11....");
        paints("each i from 1 to 2[each j from i to i+i[disc 1 j 0 0]]", ".1111.");
    }

    private void ifs() {
        s.term("III", "if SUM < SUM [ TEXT ], if SUM > SUM [ TEXT ], if SUM = SUM [ TEXT ]");
        paints("each i from 0 to 4[if i<2[disc 1 i 0 0]]", "11...");
        paints("each i from 0 to 4[if i>2[disc 1 i 0 0]]", "...11");
        paints("each i from 0 to 4[if i=2[disc 1 i 0 0]]", "..1..");
        paints("if 0-1<0[disc 1 0 0 0];if 0>0-1[disc 1 1 0 0];if 0-1>0[disc 1 2 0 0]", "11...");
        paints("if 1=2[disc 1 0 0 0;disc 1 1 0 0];disc 1 2 0 0", "..1..");
    }

    private void bounds() {
        s.term("III", "bound to -9,999 .. 9,999 behind each sign");
        sumIs("99*101", 9999);
        sumIs("100*100", 9999);
        sumIs("100*100-1", 9998);
        sumIs("999*999", 9999);
        sumIs("0-99*101", -9999);
        sumIs("0-100*100", -9999);
        sumIs("(0-100)*100", -9999);
        sumIs("(0-100)*100+1", -9998);
        sumIs("(0-999)*999", -9999);
        sumIs("99*101+1", 9999);
        sumIs("99*101+999", 9999);
        sumIs("0-99*101-1", -9999);
        sumIs("99*101*(99*101)", 9999);
        sumIs("(0-99*101)*(99*101)", -9999);
        sumIs("(0-99*101)*(0-99*101)", 9999);
        sumIs("99*101+99*101", 9999);
        sumIs("0-99*101-99*101", -9999);
    }

    private void boundsOfEachSign() {
        s.term("III", "behind each sign");
        sumIs("99*101+1-1", 9998);
        sumIs("99*101+(1-1)", 9999);
        sumIs("0-99*101-1+1", -9998);
        sumIs("100*100/2", 4999);
        sumIs("100*(100/2)", 5000);
        sumIs("999*999/999", 10);
        sumIs("999*999-999*999", 0);
    }

    private void division() {
        s.term("III", "/ toward 0 and by 0: 0");
        sumIs("7/2", 3);
        sumIs("(0-7)/2", -3);
        sumIs("7/(0-2)", -3);
        sumIs("(0-7)/(0-2)", 3);
        sumIs("1/2", 0);
        sumIs("(0-1)/2", 0);
        sumIs("5/0", 0);
        sumIs("(0-5)/0", 0);
        sumIs("0/0", 0);
        sumIs("5/(2-2)+3", 3);
        sumIs("99*101/(0-1)", -9999);
        sumIs("(0-99*101)/(0-1)", 9999);
        sumIs("100/7/2", 7);
        sumIs("100/(7/2)", 33);
        sumIs("5/2*2", 4);
    }

    private void rects() {
        s.term("III", "rect: CELLS of it that are on the WALL");
        paints("rect 1 0 0 3 2", "111", "111");
        paints("rect 1 0 0 1 1", "1..", "...");
        paints("rect 1 2 1 1 1", "...", "..1");
        paints("rect 1 2 0 9 1", "..1", "...");
        paints("rect 1 0 1 1 9", "...", "1..");
        paints("rect 1 0-1 0-1 2 2", "1..", "...");
        paints("rect 1 0-1 0-1 5 4", "111", "111");
        paints("rect 1 0-1 0 1 1", "...", "...");
        paints("rect 1 3 0 1 1", "...", "...");
        paints("rect 1 0 2 1 1", "...", "...");
        paints("rect 1 0 0-1 3 1", "...", "...");
        paints("rect 1 0 0 0 2", "...", "...");
        paints("rect 1 0 0 3 0", "...", "...");
        paints("rect 1 2 1 0-2 0-1", "...", "...");
        paints("rect 1 2 1 0-2 1;rect 1 2 1 1 0-1", "...", "...");
        paints("rect 1 0-99*101 0-99*101 99*101 99*101", "...", "...");
        paints("rect 1 0-99*101+1 0-99*101+1 99*101 99*101", "1..", "...");
        paints("rect 1 99*101 99*101 99*101 99*101", "...", "...");
        paints("rect 1 0-999 0-999 99*101 99*101", "111", "111");
    }

    private void discs() {
        s.term("III", "(none for r below 0)");
        paints("disc 1 1 1 0", "...", ".1.", "...");
        paints("disc 1 1 1 0-1", "...", "...", "...");
        paints("disc 1 1 1 0-5", "...", "...", "...");
        paints("disc 1 1 1 0-99*101", "...", "...", "...");
        paints("disc 1 1 1 99*101", "111", "111", "111");
    }

    private void discRims() {
        s.term("III", "those whose squares of x and y from the middle are together no more than r times r");
        paints("disc 1 2 2 1", ".....", "..1..", ".111.", "..1..", ".....");
        paints("disc 1 2 2 2", "..1..", ".111.", "11111", ".111.", "..1..");
        paints("disc 1 0-3 0-4 5", "1..", "...");
        paints("disc 1 0-3 0-4 6", "11.", "1..");
        paints("disc 1 0-1 0 1", "1..", "...");
        paints("disc 1 3 0 1", "..1", "...");
        paints("disc 1 0-99*101 0 99*101", "1..", "...");
        paints("disc 1 0-99*101 0-99*101 99*101", "...", "...");
        paints("disc 1 99*101 99*101 0", "...", "...");
    }

    private void says() {
        s.term("III", "say: the WORD's letters, one a CELL from (x, y) on to the right, of that COLOUR");
        paints("say 1 a 0 0", "1...", "....");
        paints("say 1 abc 1 0", ".111", "....");
        paints("say 1 abc 2 0", "..11", "....");
        paints("say 1 abc 3 1", "....", "...1");
        paints("say 1 abc 4 0", "....", "....");
        paints("say 1 abc 0-1 1", "....", "11..");
        paints("say 1 abc 0-2 0", "1...", "....");
        paints("say 1 abc 0-3 0", "....", "....");
        paints("say 1 abc 0 2", "....", "....");
        paints("say 1 abc 0 0-1", "....", "....");
        paints("say 1 abcdefgh 0-4 0", "1111", "....");
        paints("say 1 abcdefgh 0-7 0", "1...", "....");
        paints("say 1 abcdefgh 0-8 0", "....", "....");
        paints("say 1 abcdefgh 0 0", "11111111..");
        paints("say 1 a 99*101 0;say 1 abc 0-99*101 0-99*101", "....", "....");
    }

    private void holesStayBare() {
        s.term("III", "HOLES stay bare.");
        WallHouse x = new WallHouse();
        x.wall(3, 1, 0, 0);
        x.hole(0, 1, 0, 1, 1);
        String[] texts = {"rect 1 0 0 3 1", "disc 1 1 0 1", "say 1 abc 0 0"};
        for (int i = 0; i < texts.length; i++) {
            Check.draw(x, texts[i]);
            c.due(texts[i], x.sketch(i, 0), 2);
            rowsAre(x, texts[i], "1.1");
        }
        x.hole(0, 0, 0, 3, 1);
        c.due("all of them", x.sketch(0, 0), 0);
    }

    private void stepsDone() {
        s.term("III", "(each time one is come to counts");
        String[] texts = {DOT, "disc 1 9 9 0;rect 1 0 0 0 0;say 1 a 9 9", "if 1=2[disc 1 0 0 0]", "if 1=1[disc 1 0 0 0]",
            "each i from 1 to 3[disc 1 0 0 0]", "each i from 1 to 3[if i=2[disc 1 0 0 0]];disc 1 0 0 0"};
        int[] due = {1, 3, 1, 2, 4, 6};
        WallHouse x = new WallHouse();
        x.wall(1, 1, 0, 0);
        for (int i = 0; i < texts.length; i++) {
            Check.draw(x, texts[i]);
            x.sketch(i, 0);
            c.due("steps of " + texts[i], x.sketchOf(8), due[i]);
            c.due("spent of " + texts[i], x.sketchOf(9), 0);
        }
    }

    private void spent() {
        s.term("III", "At most 1,500 STEPS are done");
        WallHouse x = Check.town(2, 1, 0);
        Check.draw(x, "each i from 1 to 999[disc 1 0 0 0];each i from 1 to 498[disc 1 0 0 0];disc 2 1 0 0");
        Check.draw(x, "each i from 1 to 999[disc 1 0 0 0];each i from 1 to 498[disc 1 0 0 0];disc 2 1 0 0;disc 3 1 0 0");
        Check.draw(x, "each i from 0 to 999*99[each j from 0 to 999*99[if i=1[disc 4 0 0 0]]]");
        x.sketch(0, 0);
        c.due("1,500", x.sketchOf(8), 1500);
        c.due("aren't too many", x.sketchOf(9), 0);
        s.term("III", "it is SPENT then, and what is painted stays");
        c.due("two cells", x.sketch(1, 0), 2);
        c.due("the 1,501st isn't done", x.sketchOf(8), 1500);
        c.due("it is spent", x.sketchOf(9), 1);
        c.due("what was painted by the last", x.sketched(1, 0), 2);
        c.due("what was painted ahead", x.sketched(0, 0), 1);
        c.due("a million of them", x.sketch(2, 0), 0);
        c.due("1,500 of them", x.sketchOf(8), 1500);
        c.due("spent", x.sketchOf(9), 1);
        x.sketch(0, 0);
        c.due("another isn't", x.sketchOf(9), 0);
        for (int i = 0; i < 8; i++) {
            x.sketch(2, 0);
        }
        c.due("nor behind many that were", x.sketch(0, 0), 2);
        c.due("all of its steps are done", x.sketchOf(8), 1500);
        c.due("a work of one that is spent", x.work(0, 0, 1), 0);
        finish(x);
        c.due("has what is painted", x.cell(0, 1, 0), 2);
    }

    private int shownOn(String text, int wide, int high) {
        WallHouse x = new WallHouse();
        x.wall(wide, high, 0, 0);
        Check.bar(x, "ab");
        c.due(text, Check.draw(x, text), 0);
        x.sketch(0, 0);
        return x.sketchOf(10);
    }

    private void shown() {
        s.term("III", "WORDS of say that was done with a letter on a CELL of the WALL");
        c.due("the last letter on the first cell", shownOn("say 1 ab 0-1 0", 3, 2), 1);
        c.due("ahead of it", shownOn("say 1 ab 0-2 0", 3, 2), 0);
        c.due("the first letter on the last cell", shownOn("say 1 ab 2 1", 3, 2), 1);
        c.due("behind it", shownOn("say 1 ab 3 1", 3, 2), 0);
        c.due("above", shownOn("say 1 ab 0 0-1", 3, 2), 0);
        c.due("below", shownOn("say 1 ab 0 2", 3, 2), 0);
        c.due("painted over", shownOn("say 1 ab 0 0;rect 2 0 0 3 2", 3, 2), 1);
        c.due("not done", shownOn("if 1=2[say 1 ab 0 0]", 3, 2), 0);
        c.due("done in an each", shownOn("each i from 0-5 to 0-1[say 1 ab i 0]", 3, 2), 1);
        c.due("not done once it is spent", shownOn("each i from 0 to 99*99[disc 1 0 0 0];say 1 ab 0 0", 3, 2), 0);
        s.term("III", "(HOLES, too)");
        WallHouse x = Check.town(1, 1, 0);
        x.hole(0, 0, 0, 1, 1);
        Check.bar(x, "ab");
        Check.draw(x, "say 1 ab 0 0");
        c.due("bare", x.sketch(0, 0), 0);
        c.due("shown", x.sketchOf(10), 1);
        c.refused(x, "no work of it", x.work(0, 0, 0), 5);
    }

    private void shownWords() {
        s.term("III", "BARS: WORDS that must not be SHOWN.");
        c.due("a longer word", shownOn("say 1 abc 0 0", 3, 2), 0);
        c.due("a shorter word", shownOn("say 1 a 0 0;say 1 b 1 0", 3, 2), 0);
        c.due("the other way round", shownOn("say 1 ba 0 0", 3, 2), 0);
        c.due("with an a ahead", shownOn("say 1 aab 0 0", 3, 2), 0);
        c.due("said twice it is one bar", shownOn("say 1 ab 0 0;say 2 ab 0 1", 3, 2), 1);
        WallHouse x = new WallHouse();
        x.wall(8, 1, 0, 0);
        Check.draw(x, "say 1 zzzzzzzz 0 0");
        Check.bar(x, "zzzzzzzy");
        Check.bar(x, "yzzzzzzz");
        x.sketch(0, 0);
        c.due("of eight letters", x.sketchOf(10), 0);
        Check.bar(x, "zzzzzzzz");
        x.sketch(0, 0);
        c.due("that one", x.sketchOf(10), 1);
    }
}
