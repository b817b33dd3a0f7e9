/** Promises 19 to 24: painters, wishes, votes, walls given. */
final class PainterBounds extends Bounds {
    PainterBounds(Check c, Sentences s) {
        super(c, s);
    }

    @Override
    void run() {
        stylesAndKin();
        tenPainters();
        wishRange();
        wishInOrder();
        voteRange();
        voteLatest();
        voteKin();
        voteInOrder();
        threeHundred();
        likedOthers();
        giveNone();
        giveNotSo();
        giveMany();
        giveInOrder();
        eachAtMostOne();
        noneLiked();
        besideAmongThem();
        besideOutside();
        fewestWorks();
        leastNumber();
        givenAnswers();
        givenStays();
    }

    private void stylesAndKin() {
        s.term("I", "STYLES 6");
        WallHouse x = new WallHouse();
        for (int style : new int[] {MIN, -1, 6, MAX}) {
            c.refused(x, "style " + style, x.painter(style, 0), 2);
        }
        s.term("IV", "a KIN (0 .. 99");
        for (int kin : new int[] {MIN, -1, 100, MAX}) {
            c.refused(x, "kin " + kin, x.painter(0, kin), 2);
        }
        c.due("none came", x.count(1), 0);
        c.due("style 0, kin 0", x.painter(0, 0), 0);
        c.due("trouble()", x.trouble(), 0);
        c.due("style 5, kin 99", x.painter(5, 99), 1);
    }

    private void tenPainters() {
        s.promise(19, "A PAINTER: its number. NONE: 2; 3.");
        WallHouse x = new WallHouse();
        x.wall(1, 1, 0, 0);
        c.due("the first", x.painter(0, 0), 0);
        c.refused(x, "a wrong one", x.painter(0, 100), 2);
        s.term("I", "PAINTERS 10");
        for (int i = 1; i < 10; i++) {
            c.due("painter " + i, x.painter(0, 0), i);
        }
        c.refused(x, "an 11th", x.painter(0, 0), 3);
        c.refused(x, "2 ahead of 3", x.painter(6, 0), 2);
        c.due("count(1)", x.count(1), 10);
        c.yes("the tenth wishes", x.wish(9, 0, 1));
        c.denied(x, "there is none of 10", x.wish(10, 0, 1), 1);
    }

    private void wishRange() {
        s.term("IV", "WISHES: of a WALL 0 .. 9 (0 until told)");
        WallHouse x = Check.openTown(2, 2);
        c.due("0 until told", x.liked(0, 0), 0);
        c.yes("9", x.wish(0, 0, 9));
        c.due("trouble()", x.trouble(), 0);
        for (int v : new int[] {MIN, -1, 10, MAX}) {
            c.denied(x, "wish " + v, x.wish(0, 0, v), 2);
            c.due("it stays", x.liked(0, 0), 90);
        }
        c.due("of another painter", x.liked(1, 0), 0);
        c.due("on another wall", x.liked(0, 1), 0);
        c.yes("0", x.wish(0, 0, 0));
        c.due("told 0", x.liked(0, 0), 0);
    }

    private void wishInOrder() {
        s.promise(20, "A WISH of a PAINTER for a WALL: true; false: 1; 2.");
        WallHouse x = Check.openTown(1, 1);
        for (int n : new int[] {MIN, -1, 1, 10, 16, MAX}) {
            c.denied(x, "painter " + n, x.wish(n, 0, 10), 1);
            c.denied(x, "wall " + n, x.wish(0, n, 10), 1);
        }
        c.denied(x, "2", x.wish(0, 0, 10), 2);
        WallHouse y = new WallHouse();
        c.denied(y, "neither is there", y.wish(0, 0, 1), 1);
    }

    private void voteRange() {
        s.term("IV", "VOTES: of a neighbour (0 .. 99) for a PAINTER on a WALL 0 .. 5");
        WallHouse x = Check.openTown(1, 0);
        x.painter(0, 50);
        for (int n : new int[] {MIN, -1, 100, MAX}) {
            c.denied(x, "neighbour " + n, x.vote(n, 0, 0, 1), 2);
        }
        for (int v : new int[] {MIN, -1, 6, MAX}) {
            c.denied(x, "vote " + v, x.vote(1, 0, 0, v), 2);
        }
        c.due("none counts", x.count(10), 0);
        c.yes("neighbour 0", x.vote(0, 0, 0, 5));
        c.due("trouble()", x.trouble(), 0);
        c.yes("neighbour 99", x.vote(99, 0, 0, 4));
        c.due("both", x.liked(0, 0), 9);
        c.yes("a vote of 0", x.vote(1, 0, 0, 0));
        c.due("is one", x.count(10), 3);
        WallHouse y = Check.openTown(3, 0);
        y.painter(0, 50);
        y.painter(0, 50);
        int told = 0;
        for (int pair = 0; pair < 6; pair++) {
            for (int n : new int[] {0, 1, 2, 97, 98, 99}) {
                told++;
                c.yes("each by itself", y.vote(n, pair / 3, pair % 3, 1));
                c.due("so many count", y.count(10), told);
            }
            c.due("liked", y.liked(pair / 3, pair % 3), 6);
        }
    }

    private void voteLatest() {
        s.term("IV", "the latest counts");
        WallHouse x = Check.openTown(2, 2);
        x.vote(1, 0, 0, 5);
        x.vote(1, 0, 0, 2);
        c.due("of one neighbour", x.liked(0, 0), 2);
        c.due("one counts", x.count(10), 1);
        x.vote(1, 0, 0, 0);
        c.due("0, too", x.liked(0, 0), 0);
        c.due("it still counts", x.count(10), 1);
        x.vote(1, 0, 0, 3);
        x.vote(1, 0, 1, 5);
        x.vote(1, 1, 0, 4);
        x.vote(2, 0, 0, 1);
        c.due("of another neighbour", x.liked(0, 0), 4);
        c.due("on another wall", x.liked(0, 1), 5);
        c.due("for another painter", x.liked(1, 0), 4);
        c.due("four count", x.count(10), 4);
    }

    private void voteKin() {
        s.term("IV", "none of KIN");
        WallHouse x = Check.openTown(2, 0);
        x.painter(0, 0);
        x.painter(0, 99);
        for (int wall = 0; wall < 2; wall++) {
            c.denied(x, "kin 0", x.vote(0, 0, wall, 5), 5);
            c.denied(x, "kin 99", x.vote(99, 1, wall, 0), 5);
        }
        c.yes("not of the other", x.vote(99, 0, 0, 5));
        c.yes("nor of the one", x.vote(0, 1, 0, 5));
        c.yes("nor who is next", x.vote(1, 0, 0, 1));
        c.due("three count", x.count(10), 3);
        x.sold(0, 1);
        c.denied(x, "whoever owns the wall", x.vote(0, 0, 0, 5), 5);
    }

    private void voteInOrder() {
        s.promise(21, "true; false: 1; 2; 5 (KIN); 3 (300 VOTES).");
        WallHouse x = Check.openTown(1, 0);
        x.painter(0, 7);
        for (int n : new int[] {MIN, -1, 1, 10, 16, MAX}) {
            c.denied(x, "painter " + n, x.vote(100, n, 0, 6), 1);
            c.denied(x, "wall " + n, x.vote(7, 0, n, 6), 1);
        }
        c.denied(x, "2 ahead of 5", x.vote(7, 0, 0, 6), 2);
        c.denied(x, "5", x.vote(7, 0, 0, 5), 5);
        c.due("none counts", x.count(10), 0);
    }

    private void threeHundred() {
        s.promise(21, "3 (300 VOTES)");
        WallHouse x = Check.openTown(4, 0);
        x.painter(0, 99);
        for (int i = 0; i < 300; i++) {
            c.yes("vote " + i, x.vote(i % 75, 0, i / 75, 1));
        }
        c.due("300", x.count(10), 300);
        c.denied(x, "a 301st", x.vote(75, 0, 0, 1), 3);
        c.denied(x, "1 ahead of 3", x.vote(75, 1, 0, 1), 1);
        c.denied(x, "2 ahead of 3", x.vote(75, 0, 0, 6), 2);
        c.denied(x, "5 ahead of 3", x.vote(99, 0, 0, 1), 5);
        c.due("liked by 75", x.liked(0, 0), 75);
        c.yes("one of the 300 anew", x.vote(0, 0, 0, 5));
        c.yes("the last of the 300 anew", x.vote(74, 0, 3, 0));
        c.due("more liked", x.liked(0, 0), 79);
        c.due("less liked", x.liked(0, 3), 74);
        c.due("300 still", x.count(10), 300);
    }

    private void likedOthers() {
        s.promise(22, "LIKED of a PAINTER on a WALL; NONE.");
        c.due("neither", new WallHouse().liked(0, 0), NONE);
        WallHouse x = Check.openTown(1, 1);
        for (int n : new int[] {MIN, -1, 1, 10, 16, MAX}) {
            c.due("painter " + n, x.liked(n, 0), NONE);
            c.due("wall " + n, x.liked(0, n), NONE);
        }
        s.term("IV", "LIKED: WISH times 10 and all VOTES.");
        x.wish(0, 0, 9);
        for (int n = 0; n < 99; n++) {
            x.vote(n, 0, 0, 5);
        }
        c.due("the most there can be", x.liked(0, 0), 90 + 99 * 5);
    }

    private void giveNone() {
        s.promise(23, "1 (none, or such that there aren't)");
        WallHouse y = new WallHouse();
        c.refused(y, "no wall", y.give(1), 1);
        WallHouse x = Check.openTown(3, 1);
        for (int walls : new int[] {0, 8, 9, 15, 1 << 15, 1 << 16, 1 << 30, MIN, MIN + 1, -1, MAX}) {
            c.refused(x, "give(" + walls + ")", x.give(walls), 1);
        }
        c.due("the last wall", x.give(4), 0);
        c.due("trouble()", x.trouble(), 0);
        c.due("all of them", x.give(7), 0);
    }

    private void giveNotSo() {
        s.promise(23, "5 (some has no LEAVE, or a WORK that isn't over)");
        WallHouse x = dotTown(3);
        x.wall(1, 1, 0, 0);
        x.leave(1, 1, 9, true);
        x.leave(2, 0, 0, true);
        x.work(0, 0, 0);
        c.refused(x, "no leave at all", x.give(8), 5);
        c.refused(x, "no leave this year", x.give(2), 5);
        c.refused(x, "one among others", x.give(6), 5);
        c.refused(x, "a work under way", x.give(1), 5);
        c.refused(x, "one among others", x.give(5), 5);
        c.due("leave, no work", x.give(4), 0);
        finish(x);
        c.due("the work is over", x.give(5), 0);
        Check.passTo(x, 365);
        c.due("leave from this year on", x.give(2), 0);
        c.refused(x, "its leave has ended", x.give(4), 5);
    }

    private void giveMany() {
        s.term("IV", "GIVEN, for up to 6 WALLS");
        WallHouse x = Check.openTown(16, 10);
        for (int p = 0; p < 10; p++) {
            for (int w = 0; w < 16; w++) {
                x.wish(p, w, p == w % 6 ? 9 : 1);
            }
        }
        s.promise(23, "6 (more than 6)");
        c.refused(x, "seven", x.give(127), 6);
        c.refused(x, "sixteen", x.give(65535), 6);
        c.refused(x, "seven apart", x.give(0b1010101010101010 & ~2), 6);
        c.due("six", x.give(63), 540);
        c.due("six others", x.give(0b1111110000000000), 540);
    }

    private void giveInOrder() {
        s.promise(23, "NONE: 1 (none, or such that there aren't); 5 (some has no LEAVE, or a WORK that isn't over); 6 (more than 6)");
        WallHouse x = Check.openTown(7, 1);
        x.wall(1, 1, 0, 0);
        c.refused(x, "1 ahead of 5 and 6", x.give(511), 1);
        c.refused(x, "5 ahead of 6", x.give(255), 5);
        c.refused(x, "6", x.give(127), 6);
    }

    private void eachAtMostOne() {
        s.term("IV", "each to one PAINTER or none, each PAINTER at most one");
        WallHouse x = Check.openTown(3, 2);
        for (int w = 0; w < 3; w++) {
            x.wish(0, w, 5);
            x.wish(1, w, 5);
        }
        c.due("two for three", x.give(7), 100);
        c.due("given(0)", x.given(0), 0);
        c.due("given(1)", x.given(1), 1);
        c.due("given(2)", x.given(2), -2);
        x.wish(1, 2, 6);
        c.due("the most in all", x.give(7), 110);
        c.due("given(1)", x.given(1), -2);
        c.due("given(2)", x.given(2), 1);
        WallHouse y = Check.openTown(2, 2);
        y.wish(0, 0, 9);
        y.wish(0, 1, 8);
        y.wish(1, 0, 5);
        c.due("not the best first", y.give(3), 130);
        c.due("given(0)", y.given(0), 1);
        c.due("given(1)", y.given(1), 0);
        WallHouse z = Check.openTown(2, 0);
        c.due("no painter at all", z.give(3), 0);
        c.due("to none", z.given(1), -2);
    }

    private void noneLiked() {
        s.term("IV", "none with LIKED 0");
        WallHouse x = Check.openTown(2, 2);
        c.due("nothing is liked", x.give(3), 0);
        c.due("given(0)", x.given(0), -2);
        x.vote(0, 1, 0, 0);
        c.due("a vote of 0", x.give(3), 0);
        c.due("given(0)", x.given(0), -2);
        x.vote(0, 1, 0, 1);
        c.due("a vote of 1", x.give(3), 1);
        c.due("given(0)", x.given(0), 1);
        c.due("the other", x.given(1), -2);
        WallHouse y = Check.openTown(3, 4);
        y.wish(0, 0, 1);
        y.wish(1, 0, 2);
        y.wish(2, 2, 1);
        y.wish(3, 2, 2);
        c.due("a wall between that none likes", y.give(7), 40);
        c.due("the first", y.given(0), 1);
        c.due("the one between", y.given(1), -2);
        c.due("the last", y.given(2), 3);
        c.due("it alone", y.give(2), 0);
    }

    private void besideAmongThem() {
        s.term("IV", "no two BESIDE of one STYLE");
        WallHouse x = Check.openTown(3, 0);
        x.painter(4, 99);
        x.painter(4, 99);
        x.painter(4, 99);
        for (int w = 0; w < 3; w++) {
            x.wish(w, w, 3 + w);
        }
        c.due("none is beside", x.give(7), 120);
        x.beside(0, 2, true);
        c.due("the first and the last", x.give(7), 90);
        c.due("given(0)", x.given(0), -2);
        c.due("given(1)", x.given(1), 1);
        c.due("given(2)", x.given(2), 2);
        x.beside(1, 2, true);
        c.due("the middle, too", x.give(7), 70);
        c.due("given(2)", x.given(2), -2);
        x.painter(5, 99);
        x.wish(3, 2, 1);
        c.due("one of another style", x.give(7), 80);
        c.due("given(2)", x.given(2), 3);
    }

    private void besideOutside() {
        s.term("IV", "(also not of the STYLE of the latest WORK on a WALL BESIDE that isn't among them)");
        WallHouse x = dotTown(2);
        x.painter(1, 99);
        x.wish(0, 0, 9);
        x.wish(1, 0, 1);
        x.beside(0, 1, true);
        c.due("no work there yet", x.give(1), 90);
        x.work(1, 0, 0);
        c.due("under way", x.give(1), 10);
        finish(x);
        c.due("over", x.give(1), 10);
        c.due("given(0)", x.given(0), 1);
        c.due("among them it is as if there were none", x.give(3), 90);
        x.work(1, 1, 0);
        c.due("the latest alone, under way", x.give(1), 90);
        finish(x);
        c.due("the latest alone, over", x.give(1), 90);
        x.work(1, 0, 0);
        c.due("again the first's", x.give(1), 10);
        x.work(0, 0, 0);
        finish(x);
        x.beside(0, 1, false);
        c.due("not beside; its own latest doesn't count", x.give(1), 90);
    }

    private void fewestWorks() {
        s.term("IV", "of as good ones with the PAINTER that had fewest WORKS in all together");
        WallHouse x = dotTown(2);
        x.painter(1, 99);
        x.painter(2, 99);
        for (int p = 0; p < 3; p++) {
            x.wish(p, 0, 4);
            x.wish(p, 1, 4);
        }
        x.give(1);
        c.due("none had any", x.given(0), 0);
        x.work(1, 0, 0);
        x.give(1);
        c.due("under way it counts", x.given(0), 1);
        finish(x);
        x.work(1, 1, 0);
        x.give(1);
        c.due("the one that had none", x.given(0), 2);
        finish(x);
        x.give(3);
        c.due("the least sum: of 0 and 1", x.given(0), 0);
        c.due("and the third", x.given(1), 2);
        x.vote(1, 1, 0, 1);
        x.give(1);
        c.due("more liked outweighs works", x.given(0), 1);
        WallHouse y = Check.openTown(2, 2);
        Check.draw(y, DOT);
        y.wish(0, 0, 5);
        y.wish(1, 0, 5);
        for (int i = 0; i < 39; i++) {
            y.work(1, 0, 0);
            finish(y);
        }
        y.vote(1, 0, 0, 1);
        c.due("one liked more outweighs 39 works", y.give(1), 51);
        c.due("given(0)", y.given(0), 0);
    }

    private void leastNumber() {
        s.term("IV", "of these the one that gives the least number to the first WALL where they differ (none counts as above all)");
        WallHouse x = Check.openTown(3, 3);
        for (int p = 0; p < 3; p++) {
            for (int w = 0; w < 3; w++) {
                x.wish(p, w, 2);
            }
        }
        c.due("all alike", x.give(7), 60);
        for (int w = 0; w < 3; w++) {
            c.due("given(" + w + ")", x.given(w), w);
        }
        c.due("two of them", x.give(6), 40);
        c.due("given(1)", x.given(1), 0);
        c.due("given(2)", x.given(2), 1);
        WallHouse y = Check.openTown(2, 0);
        y.painter(0, 99);
        y.wish(0, 0, 2);
        y.wish(0, 1, 2);
        c.due("one for two", y.give(3), 20);
        c.due("a painter is ahead of none", y.given(0), 0);
        c.due("given(1)", y.given(1), -2);
        WallHouse z = Check.openTown(2, 3);
        z.wish(0, 0, 1);
        z.wish(1, 0, 2);
        z.wish(2, 1, 2);
        z.wish(1, 1, 3);
        c.due("two ways to 40", z.give(3), 40);
        c.due("the lesser to the first", z.given(0), 0);
        c.due("given(1)", z.given(1), 1);
    }

    private void givenAnswers() {
        s.promise(24, "-2 to none; NONE if it wasn't among them");
        WallHouse x = Check.openTown(3, 1);
        for (int wall = -1; wall <= 16; wall++) {
            c.due("ahead of any", x.given(wall), NONE);
        }
        x.wish(0, 2, 1);
        x.give(6);
        c.due("not among them", x.given(0), NONE);
        c.due("to none", x.given(1), -2);
        c.due("to one", x.given(2), 0);
        for (int wall : new int[] {MIN, -1, 3, 15, 16, 32, MAX}) {
            c.due("given(" + wall + ")", x.given(wall), NONE);
        }
        x.give(1);
        c.due("not among the latest", x.given(2), NONE);
        c.due("among the latest", x.given(0), -2);
    }

    private void givenStays() {
        s.promise(24, "by the latest give() that told a number");
        WallHouse x = Check.openTown(7, 1);
        x.wish(0, 1, 1);
        x.give(2);
        c.refused(x, "refused by 1", x.give(0), 1);
        c.due("it stays", x.given(1), 0);
        c.refused(x, "refused by 6", x.give(127), 6);
        c.due("it stays", x.given(1), 0);
        x.leave(0, 5, 5, false);
        c.refused(x, "refused by 5", x.give(1), 5);
        c.due("it stays", x.given(1), 0);
        c.due("not among them still", x.given(0), NONE);
        x.wish(0, 1, 0);
        c.due("what is told later doesn't matter", x.given(1), 0);
        c.due("0 is a number", x.give(2), 0);
        c.due("to none now", x.given(1), -2);
    }
}
