/** Promises 9 to 14: the tape, and the texts of drawings, bars and rights with their faults. */
final class TextBounds extends Bounds {
    private static final String FORTY = Check.times("say 0a0i;", 39) + "say 0a0i";
    private static final String PARTS = "disc 1 1 1 " + Check.times("1+", 117) + "1";
    private static final String EIGHT = Check.times("town 1%,", 7) + "town 1%";

    TextBounds(Check c, Sentences s) {
        super(c, s);
    }

    @Override
    void run() {
        fourHundred();
        highestFirst();
        noneComes();
        firstBytes();
        tapeEmpties();
        drawingInOrder();
        twelveDrawings();
        barTexts();
        barPlaces();
        barInOrder();
        rightInOrder();
        eightRights();
        faultStays();
        whereEnds();
        tokensApart();
        wordLengths();
        wholeLengths();
        signs();
        strangeBytes();
        texts();
        steps();
        sumTexts();
        theEnd();
        firstFromTheLeft();
        leastNumber();
        unknownParts();
        keptWords();
        unknownSteps();
        behindEach();
        colours();
        fortySteps();
        partLimit();
        deepBrackets();
        deepParens();
        rightTexts();
        rightWords();
        rightHundred();
        rightLines();
    }

    // ---- the tape

    private void fourHundred() {
        s.term("III", "THE TAPE has 400 bytes");
        WallHouse x = new WallHouse();
        for (int i = 1; i <= 20; i++) {
            c.due("feed " + i, x.feed(0, 0, 0, 0, 0), 20 * i);
            c.due("count(11)", x.count(11), 20 * i);
        }
        c.due("a 21st", x.feed(0, 0, 0, 0, 0), NONE);
        c.due("count(11)", x.count(11), 400);
        WallHouse y = new WallHouse();
        String full = DOT + Check.times(" ", 388 - 13) + ";" + DOT;
        c.due("its bytes", full.length(), 400);
        c.due("a text of 400", Check.draw(y, full), 0);
        y.wall(1, 1, 0, 0);
        y.sketch(0, 0);
        c.due("all of it was read", y.sketchOf(8), 2);
        c.refused(y, "400 tokens", Check.draw(y, Check.times("(", 400)), 4);
        c.due("where() of 400 tokens", y.where(), 0);
        c.refused(y, "400 tokens of a right", Check.right(y, Check.times("%", 400)), 4);
        c.due("where() of those", y.where(), 0);
        String whole = Check.times("say1i(i)(i);", 33) + "if1 ";
        c.due("its bytes", whole.length(), 400);
        c.refused(y, "as many tokens of a drawing as can be", Check.draw(y, whole), 4);
        c.due("where() of the end of all", y.where(), 400);
    }

    private void highestFirst() {
        s.promise(9, "of each number the highest first");
        WallHouse x = new WallHouse();
        x.wall(16, 1, 0, 0);
        c.due("feed", x.feed(0x73617920, 0x37206162, 0x63206969, 0x20302020, 0x20202020), 20);
        c.refused(x, "say 7 abc ii 0", x.drawing(14), 4);
        c.due("where()", x.where(), 10);
        WallHouse y = new WallHouse();
        y.feed(0x61626364, 0x65666768, -1, MIN, 0);
        c.due("abcdefgh", y.bar(8), 1);
        y.feed(-1, 0, 0, 0, 0);
        c.refused(y, "a byte of 255", y.bar(1), 4);
        y.feed(MIN, 0, 0, 0, 0);
        c.refused(y, "a byte of 128", y.bar(1), 4);
    }

    private void noneComes() {
        s.promise(9, "NONE, and none comes, if there would be more than 400");
        WallHouse x = new WallHouse();
        Check.put(x, Check.times(" ", 380) + DOT);
        c.due("it is full", x.count(11), 400);
        c.due("one more", x.feed(0x41414141, 0x41414141, 0x41414141, 0x41414141, 0x41414141), NONE);
        c.due("as it was", x.count(11), 400);
        c.due("its text, too", x.drawing(400), 0);
        c.due("there is room again", x.feed(0, 0, 0, 0, 0), 20);
    }

    private void firstBytes() {
        s.promise(10, "The first n bytes of THE TAPE (it is empty then) are a DRAWING");
        WallHouse x = new WallHouse();
        Check.put(x, DOT + "!!!!!!!!");
        c.due("what stands behind them isn't read", x.drawing(12), 0);
        c.due("and is gone", x.count(11), 0);
        c.due("the next begins anew", x.feed(0x64697363, 0x20312030, 0x20302035, 0, 0), 20);
        c.due("disc 1 0 0 5", x.drawing(12), 1);
        Check.put(x, "disc 1 0 0 25");
        c.due("a whole that n cuts", x.drawing(12), 2);
        x.wall(16, 1, 0, 0);
        c.due("is cut", x.sketch(2, 0), 3);
    }

    private void tapeEmpties() {
        s.promise(10, "NONE: 2 (THE TAPE stays)");
        WallHouse x = new WallHouse();
        c.refused(x, "of an empty tape", x.drawing(1), 2);
        c.refused(x, "of an empty tape 0", x.drawing(0), 4);
        Check.put(x, DOT);
        for (int n : new int[] {MIN, -1, 21, 401, MAX}) {
            c.refused(x, "drawing(" + n + ")", x.drawing(n), 2);
            c.due("it stays", x.count(11), 20);
        }
        c.due("all there is", x.drawing(20), 0);
        Check.put(x, DOT);
        c.refused(x, "none of it", x.drawing(0), 4);
        c.due("the end of no text", x.where(), 0);
        c.due("it is empty then", x.count(11), 0);
    }

    private void drawingInOrder() {
        s.promise(10, "4; 3.");
        WallHouse x = new WallHouse();
        c.due("the first", Check.draw(x, DOT), 0);
        c.refused(x, "a fault", Check.draw(x, "dot"), 4);
        c.due("a refused one has no number", Check.draw(x, DOT), 1);
        for (int i = 2; i < 12; i++) {
            Check.draw(x, DOT);
        }
        c.refused(x, "2 ahead of 3", x.drawing(1), 2);
        c.refused(x, "4 ahead of 3", Check.draw(x, "disc 8"), 4);
        c.due("its fault", x.fault(), 3);
        c.due("its place", x.where(), 5);
        c.refused(x, "3", Check.draw(x, DOT), 3);
        c.due("no fault", x.fault(), 0);
        c.due("no place", x.where(), NONE);
        c.due("the tape is empty", x.count(11), 0);
    }

    private void twelveDrawings() {
        s.term("I", "DRAWINGS 12");
        WallHouse x = new WallHouse();
        x.wall(12, 1, 0, 0);
        for (int i = 0; i < 12; i++) {
            c.due("drawing " + i, Check.draw(x, "disc 1 " + i + " 0 0"), i);
        }
        c.refused(x, "a 13th", Check.draw(x, "disc 2 0 0 0"), 3);
        c.due("count(2)", x.count(2), 12);
        for (int i = 0; i < 12; i++) {
            x.sketch(i, 0);
            c.due("each is its own", x.sketched(i, 0), 1);
            c.due("and paints one cell", x.sketchOf(1), 1);
        }
        c.refused(x, "there is none of 12", x.sketch(12, 0), 1);
    }

    // ---- bars

    private void barTexts() {
        s.promise(11, "one WORD of 1 to 8 small letters, nothing else");
        WallHouse x = new WallHouse();
        c.due("one letter", Check.bar(x, "a"), 1);
        c.due("trouble()", x.trouble(), 0);
        c.due("fault()", x.fault(), 0);
        c.due("the last letter", Check.bar(x, "z"), 2);
        c.due("eight", Check.bar(x, "abcdefgh"), 3);
        c.due("a word of drawings", Check.bar(x, "rect"), 4);
        Check.put(x, "abc def");
        c.due("the first n alone", x.bar(3), 5);
        x.wall(16, 1, 0, 0);
        Check.draw(x, "say 1 abc 0 0;say 1 a 0 0;say 1 def 0 0; say 1 abcdefgh 0 0; say 1 z 0 0");
        x.sketch(0, 0);
        c.due("all but rect are shown", x.sketchOf(10), 4);
    }

    private void barPlaces() {
        s.promise(11, "FORM 1 at the first byte that can't be, 0 if none is");
        barFault("", 0);
        barFault(" ", 0);
        barFault(" a", 0);
        barFault("a ", 1);
        barFault("ab c", 2);
        barFault("\na", 0);
        barFault("a\n", 1);
        barFault("`", 0);
        barFault("{", 0);
        barFault("a`", 1);
        barFault("abc{", 3);
        barFault("aBc", 1);
        barFault("Z", 0);
        barFault("7", 0);
        barFault("a7", 1);
        barFault("a-b", 1);
        barFault("" + (char) 0, 0);
        barFault("ab" + (char) 225, 2);
        barFault("abcdefghi", 8);
        barFault("abcdefgh ", 8);
        barFault("abcdefg9i", 7);
        barFault(Check.times("a", 400), 8);
    }

    private void barInOrder() {
        s.promise(11, "NONE: 2 (n; THE TAPE stays); 4");
        WallHouse x = new WallHouse();
        c.refused(x, "bar(1) of nothing", x.bar(1), 2);
        c.refused(x, "bar(0) of nothing", x.bar(0), 4);
        Check.put(x, "ab");
        for (int n : new int[] {MIN, -1, 21, 401, MAX}) {
            c.refused(x, "bar(" + n + ")", x.bar(n), 2);
            c.due("it stays", x.count(11), 20);
        }
        c.due("ab", x.bar(2), 1);
        c.due("the tape is empty", x.count(11), 0);
        Check.put(x, "ab");
        c.refused(x, "none of it", x.bar(0), 4);
        c.due("the tape is empty then, too", x.count(11), 0);
        s.term("I", "BARS 12");
        for (int i = 2; i <= 12; i++) {
            c.due("bar " + i, Check.bar(x, "abc"), i);
        }
        c.refused(x, "2 ahead of 3", x.bar(1), 2);
        c.refused(x, "4 ahead of 3", Check.bar(x, "a b"), 4);
        c.due("where()", x.where(), 1);
        c.refused(x, "a 13th", Check.bar(x, "de"), 3);
        c.due("fault()", x.fault(), 0);
        c.due("the tape is empty", x.count(11), 0);
        c.due("count(3)", x.count(3), 12);
        x.wall(3, 1, 0, 0);
        Check.draw(x, "say 1 de 0 0");
        Check.draw(x, "say 1 abc 0 0");
        x.sketch(0, 0);
        c.due("the 13th isn't barred", x.sketchOf(10), 0);
        x.sketch(1, 0);
        c.due("the twelfth is", x.sketchOf(10), 11);
    }

    // ---- rights

    private void rightInOrder() {
        s.promise(12, "NONE: 2 (THE TAPE stays); 4; 3.");
        WallHouse x = new WallHouse();
        c.refused(x, "right(1) of nothing", x.right(1), 2);
        c.refused(x, "right(0) of nothing", x.right(0), 4);
        c.due("where()", x.where(), 0);
        Check.put(x, "town rest");
        for (int n : new int[] {MIN, -1, 21, 401, MAX}) {
            c.refused(x, "right(" + n + ")", x.right(n), 2);
            c.due("it stays", x.count(11), 20);
        }
        c.due("all there is", x.right(20), 0);
        c.due("the tape is empty", x.count(11), 0);
        c.refused(x, "a fault", Check.right(x, "town"), 4);
        c.due("the tape is empty then, too", x.count(11), 0);
        c.due("a refused one has no number", Check.right(x, "town 5%"), 1);
        Check.put(x, "town 25% and more");
        c.due("the first n alone", x.right(8), 2);
        c.due("25 hundredths", x.gets(2, 100, 2), 100);
    }

    private void eightRights() {
        s.term("I", "RIGHTS 8");
        WallHouse x = new WallHouse();
        for (int i = 0; i < 8; i++) {
            c.due("right " + i, Check.right(x, "painter " + i + "%"), i);
        }
        c.refused(x, "2 ahead of 3", x.right(1), 2);
        c.refused(x, "4 ahead of 3", Check.right(x, "painter 101%"), 4);
        c.due("its fault", x.fault(), 3);
        c.refused(x, "nine lines ahead of a ninth", Check.right(x, EIGHT + ",town 1%"), 4);
        c.due("their fault", x.fault(), 4);
        c.due("their place", x.where(), 64);
        c.refused(x, "a ninth", Check.right(x, "painter 99%"), 3);
        c.due("no fault", x.fault(), 0);
        c.due("the tape is empty", x.count(11), 0);
        c.due("count(8)", x.count(8), 8);
        for (int i = 0; i < 8; i++) {
            c.due("each is its own", x.gets(i, 100, 0), i);
        }
        c.refused(x, "there is none of 8", x.gets(8, 100, 0), 1);
    }

    // ---- fault and where

    private void faultStays() {
        s.promise(13, "The FAULT of the latest drawing(), bar(), right() not refused by 2; 0 without one.");
        WallHouse x = new WallHouse();
        c.due("0 ahead of any", x.fault(), 0);
        Check.draw(x, "disc 8");
        c.due("of a drawing", x.fault(), 3);
        x.drawing(1);
        c.due("refused by 2", x.fault(), 3);
        x.bar(-1);
        c.due("a bar refused by 2", x.fault(), 3);
        x.right(500);
        c.due("a right refused by 2", x.fault(), 3);
        x.wall(0, 0, 0, 0);
        x.wall(1, 1, 0, 0);
        c.due("other calls", x.fault(), 3);
        Check.bar(x, "5");
        c.due("of a bar", x.fault(), 1);
        Check.right(x, "me 5%");
        c.due("of a right", x.fault(), 2);
        Check.bar(x, "a");
        c.due("a good bar", x.fault(), 0);
        Check.draw(x, "dot");
        c.due("of a drawing again", x.fault(), 2);
        Check.right(x, "town rest");
        c.due("a good right", x.fault(), 0);
        Check.right(x, EIGHT + ",town 1%");
        c.due("of a right again", x.fault(), 4);
        Check.draw(x, DOT);
        c.due("a good drawing", x.fault(), 0);
    }

    private void whereEnds() {
        s.promise(14, "Its place, if the latest call that may be refused was by 4; NONE else.");
        WallHouse x = new WallHouse();
        c.due("ahead of any", x.where(), NONE);
        Check.draw(x, " disc 8");
        c.due("a drawing's", x.where(), 6);
        c.due("asked again", x.where(), 6);
        x.drawing(1);
        c.due("behind a refusal by 2", x.where(), NONE);
        Check.bar(x, "ab8");
        c.due("a bar's", x.where(), 2);
        x.wall(0, 0, 0, 0);
        c.due("behind another refused call", x.where(), NONE);
        Check.right(x, "town 5");
        c.due("a right's", x.where(), 6);
        x.wall(1, 1, 0, 0);
        c.due("behind a call that wasn't refused", x.where(), NONE);
        Check.right(x, "x");
        c.due("a place of 0", x.where(), 0);
        Check.right(x, "town rest");
        c.due("behind a good right", x.where(), NONE);
    }

    // ---- tokens

    private void tokensApart() {
        s.term("III", "blanks, 32, and 10s part TOKENS and mean nothing else");
        drawingGood("  disc 1 0 0 0");
        drawingGood("\n\ndisc\n1\n0\n0\n0\n\n");
        drawingGood("disc1 0 0 0;disc1(0)(0)(0)");
        drawingGood("rect 1 0 0 0 0   ");
        drawingFault("di sc 1 0 0 0", 2, 0);
        drawingFault("disc 1 0 0 0;\ndi\nsc", 2, 14);
        drawingFault("disc 1 000", 1, 10);
        for (int b : new int[] {9, 11, 12, 13, 31, 160}) {
            drawingFault("disc" + (char) b + "1 0 0 0", 1, 4);
        }
        rightGood(" town\n5\n%\n,\nowner\nrest\n");
        rightGood("town5%,owner rest");
        rightFault("town\t5%", 1, 4);
        rightFault("to wn 5%", 2, 0);
    }

    private void wordLengths() {
        s.term("III", "WORDS of 1 to 8 small letters that stand together");
        drawingGood("say 1 a 0 0");
        drawingGood("say 1 abcdefgh 0 0");
        drawingGood("say 1 zzzzzzzz 0 0");
        drawingFault("say 1 abcdefghi 0 0", 1, 6);
        drawingFault("abcdefgh", 2, 0);
        drawingFault("abcdefghi", 1, 0);
        drawingFault("disc 1 abcdefgh", 2, 7);
        drawingFault("disc 1 abcdefghi", 1, 7);
        drawingFault("say 1 Abc 0 0", 1, 6);
        drawingFault("say 1 aBc 0 0", 1, 7);
        drawingFault("say 1 a`c 0 0", 1, 7);
        drawingFault("say 1 a{c 0 0", 1, 7);
        rightFault("abcdefgh 5%", 2, 0);
        rightFault("abcdefghi 5%", 1, 0);
        rightFault("painters 5%", 2, 0);
        rightFault("painter painters", 1, 8);
    }

    private void wholeLengths() {
        s.term("III", "WHOLES of 1 to 3 digits that do");
        drawingGood("disc 1 0 9 0");
        drawingGood("disc 1 999 000 001");
        drawingGood("disc 007 0 0 0");
        drawingFault("disc 1 1000 0 0", 1, 7);
        drawingFault("disc 1 0000 0 0", 1, 7);
        drawingFault("disc 0001 0 0 0", 1, 5);
        drawingFault("disc 1 1/2 0 0:", 1, 14);
        sumIs("999", 999);
        sumIs("010", 10);
        rightGood("town 100%");
        rightGood("town 000%");
        rightFault("town 0100%", 1, 5);
    }

    private void signs() {
        s.term("III", "single ones of [ ] ( ) ; < > = + - * /");
        drawingGood("if(1+2-3)*4/5<6[disc 1 0 0 0];if 1>2[disc 1 0 0 0];if 1=2[disc 1 0 0 0]");
        drawingFault("if 1==2", 1, 5);
        drawingFault("if 1<=2", 1, 5);
        drawingFault("disc 1 0 0 0;;disc 1 0 0 0", 1, 13);
        drawingFault("disc 1 1++2 0 0", 1, 9);
        drawingFault("disc 1 1--2 0 0", 1, 9);
        for (char sign : "!\"#$&'.:?@ABZ\\^_`{|}~,%".toCharArray()) {
            drawingFault(DOT + sign, 1, 12);
            drawingFault("disc 1 0" + sign, 1, 8);
        }
        for (char sign : "[]();<>=+-*/!".toCharArray()) {
            rightFault("town 5%" + sign, 1, 7);
            rightFault("town " + sign, 1, 5);
            rightFault("" + sign, 1, 0);
        }
    }

    private void strangeBytes() {
        s.term("III", "the first byte that begins no TOKEN");
        for (int b = 0; b < 256; b++) {
            boolean parts = b == 32 || b == 10;
            boolean small = b >= 'a' && b <= 'z';
            boolean sum = small && "ijkmn".indexOf(b) >= 0 || b >= '0' && b <= '9';
            String text = "disc 1 0 0 " + (char) b;
            if (sum) {
                drawingGood(text);
            } else if (parts) {
                drawingFault(text, 1, 12);
            } else if ("(+-*/".indexOf(b) >= 0) {
                drawingFault(text, 1, 12);
            } else {
                drawingFault(text, small ? 2 : 1, 11);
            }
        }
    }

    // ---- forms

    private void texts() {
        s.term("III", "TEXT: STEP {; STEP}.");
        drawingFault("", 1, 0);
        drawingFault("  \n ", 1, 4);
        drawingFault(";", 1, 0);
        drawingFault(";" + DOT, 1, 0);
        drawingFault(DOT + ";", 1, 13);
        drawingFault(DOT + "; ", 1, 14);
        drawingFault(DOT + " " + DOT, 1, 13);
        drawingFault("if 1=1[]", 1, 7);
        drawingFault("if 1=1[" + DOT + ";]", 1, 20);
        drawingFault("if 1=1[" + DOT + "]]", 1, 20);
        drawingFault("if 1=1[" + DOT, 1, 19);
        drawingFault("if 1=1[" + DOT + "]" + DOT, 1, 20);
        drawingFault("[" + DOT + "]", 1, 0);
        drawingGood("if 1=1[" + DOT + ";" + DOT + "];" + DOT);
    }

    private void steps() {
        s.term("III", "rect COLOUR SUM SUM SUM SUM (x, y, wide, high)");
        drawingGood("rect 1 0 0 1 1");
        drawingFault("rect", 1, 4);
        drawingFault("rect 1", 1, 6);
        drawingFault("rect 1 0 0 1", 1, 12);
        drawingFault("rect 1 0 0 1;", 1, 12);
        drawingFault("rect 1 0 0 1 1 1", 1, 15);
        s.term("III", "disc COLOUR SUM SUM SUM (x, y, of its middle, and r)");
        drawingFault("disc 1 0 0", 1, 10);
        drawingFault("disc 1 0 0 1 1", 1, 13);
        s.term("III", "say COLOUR WORD SUM SUM (x, y)");
        drawingFault("say 1 0 0", 1, 6);
        drawingFault("say 1 (", 1, 6);
        drawingFault("say 1 a 0", 1, 9);
        drawingFault("say 1 a 0 0 0", 1, 12);
        drawingFault("say 1 a b 0 0", 2, 8);
        s.term("III", "each VAR from SUM to SUM [ TEXT ]");
        drawingGood("each i from 0 to 1[" + DOT + "]");
        drawingFault("each", 1, 4);
        drawingFault("each i", 1, 6);
        drawingFault("each i 0", 1, 7);
        drawingFault("each i from", 1, 11);
        drawingFault("each i from 0", 1, 13);
        drawingFault("each i from 0 1", 1, 14);
        drawingFault("each i from 0 to", 1, 16);
        drawingFault("each i from 0 to 1", 1, 18);
        drawingFault("each i from 0 to 1 (", 1, 19);
        s.term("III", "if SUM < SUM [ TEXT ], if SUM > SUM [ TEXT ], if SUM = SUM [ TEXT ]");
        drawingFault("if", 1, 2);
        drawingFault("if 1", 1, 4);
        drawingFault("if 1 2", 1, 5);
        drawingFault("if 1 [", 1, 5);
        drawingFault("if 1 <", 1, 6);
        drawingFault("if 1 < 2", 1, 8);
        drawingFault("if 1 < 2 < 3", 1, 9);
        drawingFault("if 1 < 2 i", 1, 9);
    }

    private void sumTexts() {
        s.term("III", "PART: WHOLE, VAR, wide, high, ( SUM ).");
        drawingGood("disc 1 i wide high");
        drawingGood("disc 1 (((i))) (1)*(2) (wide-high)");
        drawingFault("disc 1 -1 0 0", 1, 7);
        drawingFault("disc 1 +1 0 0", 1, 7);
        drawingFault("disc 1 () 0 0", 1, 8);
        drawingFault("disc 1 ( ", 1, 9);
        drawingFault("disc 1 (1", 1, 9);
        drawingFault("disc 1 (1 2)", 1, 10);
        drawingFault("disc 1 (1+) 0 0", 1, 10);
        drawingFault("disc 1 1) 0 0", 1, 8);
        drawingFault("disc 1 (1)) 0 0", 1, 10);
        drawingFault("disc 1 1* 0 0", 1, 13);
        drawingFault("disc 1 0 0 1+", 1, 13);
        drawingFault("disc 1 0 0 1+;", 1, 13);
        drawingFault("disc 1 (1<2) 0 0", 1, 9);
        s.term("III", "VAR: a WORD i, j, k, m, n.");
        drawingGood("disc 1 i+j k+m n");
        for (String word : new String[] {"h", "l", "o", "ii", "ij", "x", "wid", "hig", "wides"}) {
            drawingFault("disc 1 " + word, 2, 7);
        }
        for (char variable : "ijkmn".toCharArray()) {
            drawingGood("each " + variable + " from 0 to 1[" + DOT + "]");
        }
        drawingFault("each l from 0", 1, 5);
    }

    // ---- faults

    private void theEnd() {
        s.term("III", "(the end: its place)");
        drawingFault("disc 1 0 0", 1, 10);
        drawingFault("disc 1 0 0 ", 1, 11);
        drawingFault("disc 1 0 0\n\n \n", 1, 14);
        WallHouse x = new WallHouse();
        Check.put(x, "disc 1 0 0 0");
        c.refused(x, "n is where it ends", x.drawing(11), 4);
        c.due("where()", x.where(), 11);
        Check.put(x, Check.times(" ", 400));
        c.refused(x, "blanks alone", x.drawing(400), 4);
        c.due("where()", x.where(), 400);
        Check.put(x, "town 5%");
        c.refused(x, "of a right", x.right(6), 4);
        c.due("where()", x.where(), 6);
    }

    private void firstFromTheLeft() {
        s.term("III", "FAULTS, the first that is met from the left");
        drawingFault("disc 8 x ! (((((((", 3, 5);
        drawingFault("disc 1 x ! 8", 2, 7);
        drawingFault("disc 1 ! x", 1, 7);
        drawingFault("disc 1 0 0 0 disc 9", 1, 13);
        drawingFault("dot 9 !", 2, 0);
        drawingFault("disc 1 (((((((x", 4, 13);
        drawingFault("each x from 0 to y", 1, 5);
        drawingFault("each i from y to !", 2, 12);
        rightFault("town 101% me", 3, 5);
        rightFault("me 101%", 2, 0);
        rightFault("town ! me", 1, 5);
    }

    private void leastNumber() {
        s.term("III", "of one place the least number");
        drawingFault(FORTY + ";dot", 2, 360);
        drawingFault(FORTY + ";from", 2, 360);
        drawingFault(FORTY + ";[", 1, 360);
        drawingFault(FORTY + ";abcdefghi", 1, 360);
        drawingFault(PARTS + "+x", 2, PARTS.length() + 1);
        drawingFault(PARTS + "+rect", 1, PARTS.length() + 1);
        drawingFault(PARTS + "+1000", 1, PARTS.length() + 1);
        drawingFault(PARTS + "+", 1, PARTS.length() + 1);
        rightFault(EIGHT + ",me", 2, 64);
        rightFault(EIGHT + ",rest", 1, 64);
        rightFault(EIGHT + ",%", 1, 64);
    }

    private void unknownParts() {
        s.term("III", "2 a WORD that is no VAR, wide, high where a PART can be");
        drawingFault("rect 1 a", 2, 7);
        drawingFault("rect 1 0 a", 2, 9);
        drawingFault("rect 1 0 0 0 a", 2, 13);
        drawingFault("rect 1 0 0 0 0 a", 1, 15);
        drawingFault("rect 1 0 + a", 2, 11);
        drawingFault("rect 1 0 * a", 2, 11);
        drawingFault("rect 1 (a", 2, 8);
        drawingFault("rect 1 (0 a", 1, 10);
        drawingFault("say 1 b a", 2, 8);
        drawingFault("say 1 b 0 0 a", 1, 12);
        drawingFault("each i from a", 2, 12);
        drawingFault("each i from 0 a", 1, 14);
        drawingFault("each i from 0 to a", 2, 17);
        drawingFault("each i from 0 to 0 a", 1, 19);
        drawingFault("if a", 2, 3);
        drawingFault("if 0 a", 1, 5);
        drawingFault("if 0 < a", 2, 7);
        drawingFault("if 0 < 0 a", 1, 9);
    }

    private void keptWords() {
        s.term("III", "(rect, disc, say, each, from, to, if: there they are 1)");
        for (String kept : new String[] {"rect", "disc", "say", "each", "from", "to", "if"}) {
            drawingFault("rect 1 " + kept, 1, 7);
            drawingFault("rect 1 0 0 0 " + kept, 1, 13);
            drawingFault("disc 1 0 + " + kept, 1, 11);
            drawingFault("disc 1 (" + kept, 1, 8);
            drawingGood("say 1 " + kept + " 0 0");
        }
        for (String other : new String[] {"rest", "painter", "owner", "town", "school", "rec", "rects", "t", "too", "iff", "fro"}) {
            drawingFault("rect 1 " + other, 2, 7);
        }
    }

    private void unknownSteps() {
        s.term("III", "a WORD that is no STEP where one can begin; at it");
        for (String word : new String[] {"a", "i", "wide", "high", "from", "to", "rects", "line", "iff", "painter", "rest"}) {
            drawingFault(" " + word, 2, 1);
            drawingFault(DOT + ";" + word, 2, 13);
            drawingFault("if 1=1[" + word, 2, 7);
            drawingFault("if 1=1[" + DOT + ";" + word, 2, 20);
            drawingFault("if 1=1[" + DOT + "];" + word, 2, 21);
        }
        drawingFault(DOT + " line", 1, 13);
        drawingFault("if 1=1[" + DOT + "] line", 1, 21);
    }

    private void behindEach() {
        s.term("III", "(Behind each a WORD that is no VAR is 1.)");
        for (String word : new String[] {"a", "l", "ij", "wide", "high", "from", "to", "if", "rect", "each", "painter"}) {
            drawingFault("each " + word, 1, 5);
        }
        drawingFault("each 1", 1, 5);
        drawingFault("each (", 1, 5);
        drawingFault("each i i", 1, 7);
    }

    private void colours() {
        s.term("III", "3 a COLOUR above 7; at its WHOLE");
        for (String step : new String[] {"rect", "disc", "say"}) {
            int place = step.length() + 1;
            drawingFault(step + " 8", 3, place);
            drawingFault(step + " 10", 3, place);
            drawingFault(step + " 999", 3, place);
            drawingFault(step + " 008", 3, place);
            drawingFault(step + " 1000", 1, place);
            drawingFault(step + " i", 1, place);
            drawingFault(step + " x", 1, place);
            drawingFault(step + " (1)", 1, place);
            drawingFault(step + " -1", 1, place);
        }
        drawingFault("disc 7+1 0 0 0", 1, 6);
        drawingGood("disc 0 8 9 99");
        drawingGood("disc 7 0 0 0;disc 07 0 0 0;disc 007 0 0 0");
    }

    private void fortySteps() {
        s.term("III", "a 41st STEP, at its WORD");
        drawingGood(FORTY);
        drawingFault(FORTY + ";say 0a0i", 4, 360);
        drawingFault(FORTY + ";  if", 4, 362);
        for (String step : new String[] {"rect", "disc", "say", "each", "if"}) {
            drawingFault(FORTY + ";" + step, 4, 360);
        }
        String within = Check.times("say 0a0i;", 38) + "say 0a0i";
        drawingGood("if 1=1[" + within + "]");
        drawingFault("if 1=1[" + within + ";say 0a0i]", 4, 7 + 351);
        drawingFault("if 1=1[" + within + "];say 0a0i", 4, 8 + 351);
        drawingGood("if 1=1[say 0a0i;if 1=1[say 0a0i]];" + Check.times("say 0a0i;", 35) + "say 0a0i");
        WallHouse x = new WallHouse();
        x.wall(1, 1, 0, 0);
        for (int i = 0; i < 12; i++) {
            c.due("each text has its own forty", Check.draw(x, FORTY), i);
            c.refused(x, "behind it one of 41", Check.draw(x, FORTY + ";say 0a0i"), 4);
            x.sketch(i, 0);
            c.due("all forty are done", x.sketchOf(8), 40);
            c.due("and say their word", x.sketchOf(0), 1);
        }
    }

    private void partLimit() {
        s.term("III", "a 121st PART (WHOLE, VAR, wide, high), at it");
        drawingGood(PARTS);
        for (String part : new String[] {"1", "999", "i", "n", "wide", "high"}) {
            drawingFault(PARTS + "+" + part, 4, PARTS.length() + 1);
        }
        drawingFault(PARTS + "+(1)", 4, PARTS.length() + 2);
        drawingFault(PARTS + ";say 7 word i", 4, PARTS.length() + 12);
        drawingFault(PARTS + ";each i from 0", 4, PARTS.length() + 13);
        // Colours, the VAR behind each and the words of say are no PARTS; brackets are none by themselves.
        String loop = "each i from 1 to 1[say 7 n 1 1]";
        drawingGood("disc 1 1 1 " + Check.times("1+", 113) + "1;" + loop);
        String more = "disc 1 1 1 " + Check.times("1+", 114) + "1;" + loop;
        drawingFault(more, 4, more.length() - 2);
        drawingGood("disc 1 1 1 ((((((" + Check.times("i*", 117) + "1))))))");
        drawingGood("disc 1 1 1 " + Check.times("(1)+", 77) + Check.times("1+", 40) + "1");
        WallHouse x = new WallHouse();
        x.wall(16, 1, 0, 0);
        String full = Check.times("each n from 0 to 1[", 6) + "say 5a3+n" + Check.times("+1-1", 52) + " 0" + "]]]]]]";
        for (int i = 0; i < 3; i++) {
            c.refused(x, "one of 121", Check.draw(x, PARTS + "+1"), 4);
            c.due("each text has its own 120", Check.draw(x, PARTS), 2 * i);
            c.due("all of them are reckoned", x.sketch(2 * i, 0), 16);
            c.due("six deep with 119", Check.draw(x, full), 2 * i + 1);
            x.sketch(2 * i + 1, 0);
            c.due("it is painted, too", x.sketched(4, 0), 5);
            c.due("all of its loops are done", x.sketchOf(8), 1 + 2 + 4 + 8 + 16 + 32 + 64);
        }
    }

    private void deepBrackets() {
        s.term("III", "a seventh [ within others");
        String six = Check.times("if 1=1[", 6);
        drawingGood(six + DOT + "]]]]]]");
        drawingFault(six + "if 1=1[", 4, 48);
        drawingFault(Check.times("each i from 1 to 1[", 7), 4, 6 * 19 + 18);
        drawingFault(six + "if 1=1 <", 1, 49);
        drawingGood(six + DOT + "];if 1=1[" + DOT + "]]]]]]");
        drawingFault(six + DOT + "];if 1=1[if 1=1[", 4, 42 + 12 + 9 + 6);
        drawingGood(Check.times("if 1=1[" + DOT + "];", 10) + DOT);
        WallHouse x = new WallHouse();
        for (int i = 0; i < 3; i++) {
            c.refused(x, "none is closed", Check.draw(x, six + "dot"), 4);
            c.due("each text has its own six", Check.draw(x, six + DOT + "]]]]]]"), i);
            c.refused(x, "none is open behind it", Check.draw(x, DOT + "]"), 4);
            c.due("where()", x.where(), 12);
        }
    }

    private void deepParens() {
        s.term("III", "a seventh ( , at it");
        drawingGood("disc 1 ((((((1)))))) 0 0");
        drawingFault("disc 1 (((((((1))))))) 0 0", 4, 13);
        drawingFault("disc 1 (1+(1+(1+(1+(1+(1+(1", 4, 25);
        drawingGood("disc 1 ((((((1)))))) ((((((1)))))) ((((((1))))))");
        drawingGood("disc 1 ((((((1))))))+((((((1)))))) 0 0");
        drawingFault("disc 1 (((((1)+(((1", 4, 17);
        drawingGood("disc 1 (1)+(1)+(1)+(1)+(1)+(1)+(1) 0 0");
        drawingFault("disc 1 ((((((1)))))))", 1, 20);
        sumIs("1+2*(1+2*(1+2*(1+2*(1+2*(1+2*(1+2*3))))))", 511);
        WallHouse x = new WallHouse();
        x.wall(16, 1, 0, 0);
        for (int i = 0; i < 3; i++) {
            c.refused(x, "none is closed", Check.draw(x, "disc 1 1+2*(1+2*(1+2*(1+2*(1+2*(1+2*(1+2*!"), 4);
            c.due("each text has its own six", Check.draw(x, "disc 1 1+2*(1+2*(3)) 0 0"), i);
            x.sketch(i, 0);
            c.due("as it is reckoned", x.sketched(15, 0), 1);
        }
    }

    // ---- texts of rights

    private void rightTexts() {
        s.term("VI", "TEXT: LINE {, LINE}; LINE: WHO WHOLE % , or WHO rest");
        rightFault("", 1, 0);
        rightFault(" \n", 1, 2);
        rightFault(",", 1, 0);
        rightFault("town 5%,", 1, 8);
        rightFault("town 5%,,town 5%", 1, 8);
        rightFault("town 5% town 5%", 1, 8);
        rightFault("town 5", 1, 6);
        rightFault("town 5,", 1, 6);
        rightFault("town 5 5", 1, 7);
        rightFault("town 5 rest", 1, 7);
        rightFault("town %", 1, 5);
        rightFault("town", 1, 4);
        rightFault("town,", 1, 4);
        rightFault("town rest%", 1, 9);
        rightFault("town rest rest", 1, 10);
        rightFault("town rest,", 1, 10);
        rightFault("5%", 1, 0);
        rightFault("%", 1, 0);
        rightFault("town 5%%", 1, 7);
        rightFault("town -5%", 1, 5);
        rightFault("town (5)%", 1, 5);
        rightGood("town rest");
        rightGood("painter 0%,owner 0%,town 0%,school 0%");
        rightGood("painter rest,owner rest,town rest,school rest");
    }

    private void rightWords() {
        s.term("VI", "2 a WORD that is no WHO (rest: 1)");
        for (String word : new String[] {"a", "paint", "painters", "towns", "rests", "rect", "i", "wide", "high", "to"}) {
            rightFault(word + " 5%", 2, 0);
            rightFault("town 5%, " + word, 2, 9);
        }
        rightFault("rest", 1, 0);
        rightFault("rest 5%", 1, 0);
        rightFault("town 5%, rest", 1, 9);
        rightFault("town me", 1, 5);
        rightFault("town town", 1, 5);
        for (String who : new String[] {"painter", "owner", "town", "school"}) {
            rightGood(who + " 1%");
            rightGood(who + " rest");
        }
    }

    private void rightHundred() {
        s.term("VI", "3 more than 100 in all (at the WHOLE with which it is)");
        rightGood("town 100%");
        rightGood("town 50%,town 50%");
        rightGood("town 100%,owner 0%,school rest");
        rightFault("town 101%", 3, 5);
        rightFault("town 999%", 3, 5);
        rightFault("town 101", 3, 5);
        rightFault("town 100%,owner 1%", 3, 16);
        rightFault("town 50%,town 51%", 3, 14);
        rightFault("town 1%,owner rest,school 100%", 3, 26);
        rightFault("town 999%,town 999%", 3, 5);
        WallHouse x = new WallHouse();
        Check.right(x, "town 100%");
        c.due("the next one begins at 0", Check.right(x, "town 100%"), 1);
        Check.right(x, "town 60%, owner 60%");
        c.due("also behind a refused one", Check.right(x, "town 60%"), 2);
        c.due("which left nothing", x.gets(2, 100, 1), 0);
        Check.right(x, "town 10%,owner 30%,school rest,owner 30%,!");
        c.due("nor did one of many lines", Check.right(x, "town 60%"), 3);
        c.due("to the owner", x.gets(3, 100, 1), 0);
        c.due("to the school", x.gets(3, 100, 3), 0);
        c.due("to the town", x.gets(3, 100, 2), 100);
    }

    private void rightLines() {
        s.term("VI", "4 a ninth LINE (at its WORD)");
        rightGood(EIGHT);
        rightGood(Check.times("town rest,", 7) + "owner rest");
        for (String who : new String[] {"painter", "owner", "town", "school"}) {
            rightFault(EIGHT + "," + who, 4, 64);
        }
        rightFault(EIGHT + ", town rest", 4, 65);
        rightFault(Check.times("town rest,", 8) + "town", 4, 80);
        rightFault(EIGHT + ",", 1, 64);
        rightFault(EIGHT + " town", 1, 64);
        WallHouse x = new WallHouse();
        Check.right(x, EIGHT + ",town 1%");
        c.due("the next one begins at none", Check.right(x, EIGHT), 0);
        Check.right(x, Check.times("owner 1%,", 7) + "school rest");
        c.due("seven of a hundred", x.gets(1, 100, 1), 7);
        c.due("the eighth line", x.gets(1, 100, 3), 93);
    }
}
