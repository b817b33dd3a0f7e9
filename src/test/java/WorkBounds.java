/** Promises 25 to 36: works, days, tins, and how paint fades. */
final class WorkBounds extends Bounds {
    WorkBounds(Check c, Sentences s) {
        super(c, s);
    }

    @Override
    void run() {
        workInOrder();
        workNotSo();
        workBars();
        fortyWorks();
        workOfOthers();
        workStages();
        workNeeds();
        coatDays();
        weatherRange();
        weatherLater();
        goodDays();
        untoldDays();
        liftRange();
        liftsByNumber();
        dryingNeedsNone();
        oneStepADay();
        endOthers();
        endForetold();
        readyDays();
        passRange();
        passBeyond();
        passTells();
        overReplaces();
        holesAsBegun();
        tinRange();
        sixtyTins();
        tinsByNumber();
        tinsOfTwoWorks();
        tinsLate();
        leftOthers();
        cellOthers();
        looksOthers();
        looksDays();
        looksColours();
        looksLeast();
        paleRange();
        paleMean();
        paleBare();
    }

    private void workInOrder() {
        s.promise(25, "A WORK: its number. NONE: 1; 5");
        WallHouse x = new WallHouse();
        c.refused(x, "nothing is there", x.work(0, 0, 0), 1);
        x.wall(1, 1, 0, 0);
        c.refused(x, "no painter", x.work(0, 0, 0), 1);
        x.painter(0, 0);
        c.refused(x, "no drawing, 1 ahead of 5", x.work(0, 0, 0), 1);
        Check.draw(x, DOT);
        for (int n : new int[] {MIN, -1, 1, 10, 12, 16, MAX}) {
            c.refused(x, "wall " + n, x.work(n, 0, 0), 1);
            c.refused(x, "painter " + n, x.work(0, n, 0), 1);
            c.refused(x, "drawing " + n, x.work(0, 0, n), 1);
        }
        c.refused(x, "5", x.work(0, 0, 0), 5);
        x.leave(0, 0, 9, true);
        c.due("all is there", x.work(0, 0, 0), 0);
        c.due("trouble()", x.trouble(), 0);
        c.refused(x, "1 ahead of 5", x.work(0, 1, 0), 1);
    }

    private void workNotSo() {
        s.promise(25, "5 (no LEAVE, one that isn't over, some BAR is SHOWN)");
        WallHouse x = dotTown(3);
        x.leave(0, 1, 9, true);
        c.refused(x, "no leave this year", x.work(0, 0, 0), 5);
        c.due("leave", x.work(1, 0, 0), 0);
        c.refused(x, "one that isn't over", x.work(1, 0, 0), 5);
        c.due("a painter may have two", x.work(2, 0, 0), 1);
        finish(x);
        c.due("both are over", x.count(5), 2);
        c.due("another there", x.work(1, 0, 0), 2);
        x.leave(1, 5, 5, true);
        x.sold(1, 4);
        c.due("without leave it goes on", finish(x), 1);
        c.refused(x, "no leave any more", x.work(1, 0, 0), 5);
        Check.passTo(x, 364);
        c.refused(x, "the last day ahead of its leave", x.work(0, 0, 0), 5);
        x.pass(1);
        c.due("its first day", x.work(0, 0, 0), 3);
    }

    private void workBars() {
        s.promise(25, "some BAR is SHOWN");
        WallHouse x = Check.town(3, 1, 0);
        Check.draw(x, "say 1 no 2 0");
        Check.draw(x, "say 1 no 3 0");
        Check.draw(x, "say 1 no 2 0;rect 2 0 0 3 1");
        Check.bar(x, "no");
        c.refused(x, "one letter is on it", x.work(0, 0, 0), 5);
        c.refused(x, "painted over", x.work(0, 0, 2), 5);
        c.due("none begun", x.about(0, 6), -2);
        c.due("behind the edge", x.work(0, 0, 1), 0);
        WallHouse y = Check.town(3, 1, 0);
        Check.draw(y, "say 1 no 0 0");
        c.due("not barred yet", y.work(0, 0, 0), 0);
        Check.bar(y, "no");
        c.due("a bar told later doesn't stop it", finish(y), 1);
        c.due("it is on the wall", y.about(0, 8), 2);
        c.refused(y, "now it is barred", y.work(0, 0, 0), 5);
    }

    private void fortyWorks() {
        s.term("I", "WORKS 40");
        WallHouse x = dotTown(16);
        x.wall(1, 1, 0, 0);
        Check.sunny(x, 0, 63);
        x.lifts(5);
        for (int i = 0; i < 40; i++) {
            c.due("work " + i, x.work(i % 10, 0, 0), i);
            if (i % 10 == 9 && i < 39) {
                c.due("over", x.pass(20), 10);
            }
        }
        c.refused(x, "a 41st", x.work(10, 0, 0), 3);
        c.refused(x, "5 ahead of 3", x.work(0, 0, 0), 5);
        c.refused(x, "1 ahead of 3", x.work(16, 0, 0), 1);
        c.due("count(4)", x.count(4), 40);
        c.due("count(5)", x.count(5), 30);
        c.due("none begun there", x.about(10, 6), -2);
        c.due("the last is whole", x.workOf(39, 0), 9);
        c.due("there is none of 40", x.workOf(40, 0), NONE);
        x.pass(4);
        c.due("five have a lift a day", x.count(5), 35);
        c.refused(x, "those over count, too", x.work(0, 0, 0), 3);
    }

    private void workOfOthers() {
        s.promise(26, "6 CELLS, 7 LACKING. NONE.");
        c.due("no work", new WallHouse().workOf(0, 0), NONE);
        WallHouse x = dotTown(1);
        x.work(0, 0, 0);
        for (int n : new int[] {MIN, -1, 1, 40, MAX}) {
            c.due("work " + n, x.workOf(n, 0), NONE);
        }
        for (int what : new int[] {MIN, -1, 8, 9, MAX}) {
            c.due("what " + what, x.workOf(0, what), NONE);
        }
        c.due("cells", x.workOf(0, 6), 1);
        c.due("none lacks ahead of its end", x.workOf(0, 7), 0);
        finish(x);
        c.due("lacking", x.workOf(0, 7), 1);
        x.painter(1, 1);
        x.wall(1, 1, 0, 0);
        x.leave(1, 0, 9, true);
        Check.draw(x, DOT);
        x.work(1, 1, 1);
        for (int what = 0; what < 3; what++) {
            c.due("of the first", x.workOf(0, what), 0);
            c.due("of the other", x.workOf(1, what), 1);
        }
    }

    private void workStages() {
        s.promise(26, "3: 0 UNDER, 1 drying, 2 COAT, 3 over");
        WallHouse x = Check.town(5, 5, 0);
        Check.draw(x, "rect 1 0 0 5 5");
        x.work(0, 0, 0);
        int[] stages = {0, 1, 1, 2, 2, 3};
        for (int day = 0; day < 6; day++) {
            c.due("stage on day " + day, x.workOf(0, 3), stages[day]);
            c.due("over on day " + day, x.workOf(0, 5), day == 5 ? 4 : -2);
            Check.sunny(x, day, day);
            x.pass(1);
        }
        c.due("over it stays", x.workOf(0, 3), 3);
    }

    private void workNeeds() {
        s.promise(26, "4 GOOD DAYS that it needs yet in all, 5 the DAY on which it was over (-2)");
        WallHouse x = dotTown(1);
        x.pass(7);
        x.work(0, 0, 0);
        for (int needs = 4; needs > 0; needs--) {
            c.due("needs", x.workOf(0, 4), needs);
            c.due("not over", x.workOf(0, 5), -2);
            Check.sunny(x, x.count(9), x.count(9));
            x.pass(1);
        }
        c.due("needs none", x.workOf(0, 4), 0);
        c.due("its day", x.workOf(0, 5), 10);
        Check.sunny(x, 11, 12);
        x.pass(2);
        c.due("never less", x.workOf(0, 4), 0);
        c.due("nor later", x.workOf(0, 5), 10);
    }

    private void coatDays() {
        s.term("V", "as 24ths of its painted CELLS are, upwards, 1 at least");
        int[] cells = {0, 1, 23, 24, 25, 47, 48, 49, 168, 169, 191, 192};
        int[] days = {1, 1, 1, 1, 2, 2, 2, 3, 7, 8, 8, 8};
        for (int i = 0; i < cells.length; i++) {
            WallHouse x = Check.town(16, 12, 0);
            Check.draw(x, "rect 1 0 0 16 " + cells[i] / 16 + ";rect 1 0 " + cells[i] / 16 + " " + cells[i] % 16 + " 1");
            x.work(0, 0, 0);
            c.due("cells", x.workOf(0, 6), cells[i]);
            c.due("days of " + cells[i], x.workOf(0, 4), 3 + days[i]);
            Check.sunny(x, 0, 30);
            c.due("its end", x.end(0), 2 + days[i]);
            x.pass(2 + days[i]);
            c.due("not over a day ahead", x.count(5), 0);
            c.due("over", x.pass(1), 1);
            c.due("on the wall", x.about(0, 8), cells[i]);
        }
    }

    private void weatherRange() {
        s.promise(27, "degrees (-40 .. 50) and rain (0 .. 200): true; false (2)");
        WallHouse x = new WallHouse();
        for (int degrees : new int[] {MIN, -41, 51, MAX}) {
            c.denied(x, "degrees " + degrees, x.weather(0, degrees, 0), 2);
        }
        for (int rain : new int[] {MIN, -1, 201, MAX}) {
            c.denied(x, "rain " + rain, x.weather(0, 20, rain), 2);
        }
        c.yes("-40, 0", x.weather(0, -40, 0));
        c.due("trouble()", x.trouble(), 0);
        c.yes("50, 200", x.weather(0, 50, 200));
        WallHouse y = dotTown(1);
        y.work(0, 0, 0);
        Check.sunny(y, 0, 3);
        c.denied(y, "a refused one", y.weather(1, -41, 0), 2);
        c.denied(y, "another", y.weather(1, 20, 201), 2);
        c.due("leaves what was told", y.end(0), 3);
    }

    private void weatherLater() {
        s.promise(27, "A DAY (TODAY or later) is told");
        WallHouse x = new WallHouse();
        for (int day : new int[] {MIN, -1, 3650, MAX}) {
            c.denied(x, "day " + day, x.weather(day, 20, 0), 2);
        }
        c.yes("today", x.weather(0, 20, 0));
        c.yes("the last day", x.weather(3649, 20, 0));
        x.pass(5);
        c.denied(x, "yesterday", x.weather(4, 20, 0), 2);
        c.yes("today", x.weather(5, 20, 0));
        Check.passTo(x, 3649);
        c.denied(x, "the day ahead of the last", x.weather(3648, 20, 0), 2);
        c.yes("the last day is today", x.weather(3649, 20, 0));
        c.denied(x, "none behind it", x.weather(3650, 20, 0), 2);
    }

    private void goodDays() {
        s.term("V", "a DAY is GOOD if it was told at 10 degrees and more and with no rain");
        int[][] days = {{10, 0, 1}, {9, 0, 0}, {11, 0, 1}, {50, 0, 1}, {10, 1, 0}, {50, 200, 0}, {0, 0, 0}, {-40, 0, 0}, {-10, 0, 0}};
        for (int[] day : days) {
            WallHouse x = dotTown(1);
            x.work(0, 0, 0);
            x.weather(0, day[0], day[1]);
            x.pass(1);
            c.due(day[0] + " degrees, rain " + day[1], 4 - x.workOf(0, 4), day[2]);
        }
        WallHouse x = dotTown(1);
        x.work(0, 0, 0);
        x.weather(0, 20, 0);
        x.weather(0, 20, 5);
        x.weather(1, 5, 0);
        x.weather(1, 20, 0);
        x.pass(1);
        c.due("told anew: not good", x.workOf(0, 4), 4);
        x.pass(1);
        c.due("told anew: good", x.workOf(0, 4), 3);
        int[] farApart = {31, 32, 63, 64, 3648};
        WallHouse y = dotTown(1);
        y.work(0, 0, 0);
        for (int day : farApart) {
            y.weather(day, 20, 0);
        }
        y.weather(64, 20, 1);
        c.due("each day by itself", y.end(0), 3648);
        for (int rainy = 0; rainy < 100; rainy++) {
            for (int good = 0; good < 100; good++) {
                WallHouse z = dotTown(1);
                z.work(0, 0, 0);
                z.weather(good, 20, 0);
                Check.sunny(z, 200, 202);
                int end = good == rainy ? -2 : 202;
                z.weather(rainy, 20, 1);
                c.due("good on " + good + ", rain on " + rainy, z.end(0), end);
            }
        }
    }

    private void untoldDays() {
        s.term("V", "of one that isn't told nothing is known: it isn't");
        WallHouse x = dotTown(1);
        x.work(0, 0, 0);
        c.due("none is told", x.end(0), -2);
        c.due("a hundred go by", x.pass(100), 0);
        c.due("nothing is done", x.workOf(0, 4), 4);
        x.weather(100, 20, 0);
        x.weather(102, 20, 0);
        x.weather(104, 20, 0);
        x.weather(3649, 20, 0);
        c.due("days between don't count", x.end(0), 3649);
    }

    private void liftRange() {
        s.promise(28, "LIFTS become so many: true; false (2).");
        WallHouse x = dotTown(6);
        for (int i = 0; i < 6; i++) {
            x.work(i, 0, 0);
        }
        Check.sunny(x, 0, 30);
        s.term("V", "LIFTS: so many (1 .. 5; 2 at first)");
        c.due("two at first", x.ready(3), 2);
        for (int v : new int[] {MIN, -1, 0, 6, MAX}) {
            c.denied(x, "lifts(" + v + ")", x.lifts(v), 2);
            c.due("still two", x.ready(3), 2);
        }
        for (int v = 1; v <= 5; v++) {
            c.yes("lifts(" + v + ")", x.lifts(v));
            c.due("trouble()", x.trouble(), 0);
            c.due("so many by day 3", x.ready(3), v);
        }
    }

    private void liftsByNumber() {
        s.term("V", "WORKS in order of number that need a LIFT have one while there are some");
        WallHouse x = dotTown(3);
        x.lifts(1);
        x.work(2, 0, 0);
        x.work(0, 0, 0);
        x.work(1, 0, 0);
        Check.sunny(x, 0, 30);
        int[] ends = {3, 4, 5};
        for (int i = 0; i < 3; i++) {
            c.due("end(" + i + ")", x.end(i), ends[i]);
        }
        x.pass(1);
        c.due("the first alone", x.workOf(0, 3) + x.workOf(1, 3) + x.workOf(2, 3), 1);
        x.pass(3);
        c.due("over: the first", x.workOf(0, 5), 3);
        c.due("the second has its coat", x.workOf(1, 3), 2);
        x.lifts(5);
        c.due("more lifts from now on", x.pass(2), 2);
        WallHouse y = Check.openTown(0, 1);
        y.wall(5, 5, 0, 0);
        y.wall(1, 1, 0, 0);
        y.leave(0, 0, 9, true);
        y.leave(1, 0, 9, true);
        Check.draw(y, "rect 1 0 0 wide high");
        y.lifts(1);
        y.work(0, 0, 0);
        Check.sunny(y, 0, 30);
        y.pass(1);
        y.work(1, 0, 0);
        y.pass(2);
        c.due("both have a coat to do", y.workOf(0, 3) * 10 + y.workOf(1, 3), 21);
        c.due("the lesser number first", y.end(0), 4);
        c.due("then the other", y.end(1), 5);
    }

    private void dryingNeedsNone() {
        s.term("V", "then 2 GOOD DAYS to dry (without LIFT)");
        WallHouse x = dotTown(2);
        x.lifts(1);
        x.work(0, 0, 0);
        x.work(1, 0, 0);
        Check.sunny(x, 0, 1);
        x.pass(2);
        c.due("one dries", x.workOf(0, 4), 2);
        c.due("the other has its lift", x.workOf(1, 4), 3);
        x.weather(2, 20, 1);
        x.pass(1);
        c.due("a day with rain doesn't dry", x.workOf(0, 4), 2);
        x.weather(3, 20, 0);
        x.pass(1);
        c.due("both dry at once", x.workOf(0, 4) * 10 + x.workOf(1, 4), 12);
    }

    private void oneStepADay() {
        s.term("V", "(A DAY that isn't GOOD brings none on; a WORK does one DAY's step a DAY.)");
        WallHouse x = dotTown(1);
        x.lifts(5);
        x.work(0, 0, 0);
        x.weather(0, 20, 0);
        x.weather(1, 9, 0);
        x.weather(2, 20, 0);
        int[] needs = {3, 3, 2, 2};
        for (int day = 0; day < 4; day++) {
            x.pass(1);
            c.due("behind day " + day, x.workOf(0, 4), needs[day]);
        }
    }

    private void endOthers() {
        s.promise(29, "FORETOLD END of a WORK; its DAY if it is over; NONE.");
        c.due("no work", new WallHouse().end(0), NONE);
        WallHouse x = dotTown(1);
        x.work(0, 0, 0);
        for (int n : new int[] {MIN, -1, 1, 40, MAX}) {
            c.due("end(" + n + ")", x.end(n), NONE);
        }
        finish(x);
        c.due("its day", x.end(0), 3);
        x.pass(50);
        c.due("its day later", x.end(0), 3);
    }

    private void endForetold() {
        s.term("V", "-2 if they aren't enough");
        WallHouse x = dotTown(3);
        x.work(0, 0, 0);
        Check.sunny(x, 0, 2);
        c.due("three of four", x.end(0), -2);
        x.weather(3649, 20, 0);
        c.due("the last day of all", x.end(0), 3649);
        x.weather(3, 20, 0);
        c.due("four", x.end(0), 3);
        c.due("nothing was done by asking", x.workOf(0, 4), 4);
        s.term("V", "(all WORKS as they are)");
        x.work(1, 0, 0);
        x.work(2, 0, 0);
        c.due("the third has no lift on day 0", x.end(2), 3649);
        x.pass(2);
        c.due("from where it is", x.end(0), 3);
        x.pass(1);
        c.due("its last day is today", x.end(0), 3);
        c.due("nor by today alone", x.end(2), 3649);
    }

    private void readyDays() {
        s.promise(30, "would be by the end of a DAY (TODAY or later), by DAYS as they are told; NONE for others");
        WallHouse x = dotTown(2);
        c.due("no work", x.ready(0), 0);
        for (int day : new int[] {MIN, -1, 3650, MAX}) {
            c.due("ready(" + day + ")", x.ready(day), NONE);
        }
        x.work(0, 0, 0);
        Check.sunny(x, 0, 9);
        x.pass(1);
        x.work(1, 0, 0);
        c.due("a day that is gone", x.ready(0), NONE);
        c.due("today", x.ready(1), 0);
        c.due("the day ahead", x.ready(2), 0);
        c.due("by the end of its day", x.ready(3), 1);
        c.due("both", x.ready(4), 2);
        c.due("the last day", x.ready(3649), 2);
        x.pass(3);
        c.due("those over don't count", x.ready(3649), 1);
        c.due("today", x.ready(4), 1);
        x.pass(1);
        c.due("none is left", x.ready(5), 0);
        WallHouse y = dotTown(1);
        y.work(0, 0, 0);
        Check.sunny(y, 0, 3);
        c.due("a day ahead of the last that is told", y.ready(2), 0);
        c.due("the last that is told", y.ready(3), 1);
        c.due("a day behind it", y.ready(4), 1);
        y.weather(3, 20, 1);
        c.due("they aren't enough", y.ready(3649), 0);
    }

    private void passRange() {
        s.promise(33, "So many DAYS go by (1 .. 100)");
        WallHouse x = new WallHouse();
        for (int days : new int[] {MIN, -100, -1, 0, 101, 3650, MAX}) {
            c.refused(x, "pass(" + days + ")", x.pass(days), 2);
            c.due("none goes by", x.count(9), 0);
        }
        c.due("1", x.pass(1), 0);
        c.due("trouble()", x.trouble(), 0);
        c.due("today", x.count(9), 1);
        c.due("100", x.pass(100), 0);
        c.due("today", x.count(9), 101);
    }

    private void passBeyond() {
        s.promise(33, "NONE: 2 (also beyond 3,649)");
        WallHouse x = dotTown(1);
        Check.passTo(x, 3645);
        x.work(0, 0, 0);
        Check.sunny(x, 3645, 3649);
        c.refused(x, "one too many", x.pass(5), 2);
        c.refused(x, "many too many", x.pass(100), 2);
        c.due("none goes by", x.count(9), 3645);
        c.due("nothing is done", x.workOf(0, 4), 4);
        c.due("to the last day", x.pass(4), 1);
        c.due("today", x.count(9), 3649);
        c.refused(x, "no day behind it", x.pass(1), 2);
        x.leave(0, 0, 9, true);
        c.due("on the last day", x.work(0, 0, 0), 1);
        c.due("it has its first step then", x.end(1), -2);
        c.due("a work's day", x.workOf(0, 5), 3648);
    }

    private void passTells() {
        s.promise(33, "how many WORKS were over in them");
        WallHouse x = dotTown(3);
        Check.sunny(x, 0, 9);
        x.work(0, 0, 0);
        x.pass(1);
        x.work(1, 0, 0);
        x.work(2, 0, 0);
        c.due("none in these", x.pass(2), 0);
        c.due("one", x.pass(1), 1);
        c.due("two at once", x.pass(96), 2);
        c.due("none is left", x.pass(1), 0);
    }

    private void overReplaces() {
        s.term("V", "A WORK is over as its last COAT DAY ends");
        WallHouse x = Check.town(2, 1, 0);
        Check.draw(x, "disc 5 0 0 0");
        Check.draw(x, "disc 6 1 0 0");
        x.tin(5, 3);
        x.work(0, 0, 0);
        Check.sunny(x, 0, 20);
        x.pass(3);
        c.due("its last day has begun", x.cell(0, 0, 0), -2);
        c.due("no paint was used", x.left(0), 3);
        x.pass(1);
        c.due("its last day has ended", x.cell(0, 0, 0), 5);
        c.due("paint was used", x.left(0), 2);
        s.term("V", "in place of what was");
        x.work(0, 0, 1);
        x.pass(3);
        c.due("what was is there yet", x.cell(0, 0, 0), 5);
        x.pass(1);
        c.due("all of it is gone", x.cell(0, 0, 0), -2);
        c.due("the new one", x.cell(0, 1, 0), 6);
        c.due("one cell is painted", x.about(0, 8), 1);
        c.due("its paint isn't back", x.left(0), 2);
    }

    private void holesAsBegun() {
        s.term("V", "what it PAINTED (by HOLES as it was begun) is on the WALL then");
        WallHouse x = Check.town(3, 1, 0);
        x.hole(0, 1, 0, 1, 1);
        Check.draw(x, "rect 5 0 0 3 1");
        x.work(0, 0, 0);
        c.refused(x, "no hole meanwhile", x.hole(0, 0, 0, 1, 1), 5);
        c.due("its cells", x.workOf(0, 6), 2);
        finish(x);
        c.due("the hole", x.cell(0, 1, 0), -2);
        c.due("beside it", x.cell(0, 2, 0), 5);
        x.hole(0, 2, 0, 1, 1);
        c.due("its cells stay", x.workOf(0, 6), 2);
        c.due("on the wall is one", x.about(0, 8), 1);
        WallHouse y = Check.town(3, 1, 0);
        y.wall(3, 1, 0, 0);
        Check.draw(y, "rect 5 0 0 3 1");
        Check.draw(y, "disc 2 0 0 0");
        y.work(0, 0, 0);
        y.sketch(1, 0);
        y.sketch(1, 1);
        finish(y);
        c.due("a sketch meanwhile is nothing to it", y.about(0, 8), 3);
    }

    private void tinRange() {
        s.term("V", "TINS: of a COLOUR, for so many CELLS (1 .. 999), numbered");
        WallHouse x = new WallHouse();
        for (int cells : new int[] {MIN, -1, 0, 1000, MAX}) {
            c.refused(x, "cells " + cells, x.tin(0, cells), 2);
        }
        s.term("I", "COLOURS 8 (0 .. 7)");
        for (int colour : new int[] {MIN, -1, 8, MAX}) {
            c.refused(x, "colour " + colour, x.tin(colour, 1), 2);
        }
        c.due("none came", x.count(6), 0);
        c.due("colour 0, 1 cell", x.tin(0, 1), 0);
        c.due("trouble()", x.trouble(), 0);
        c.due("colour 7, 999 cells", x.tin(7, 999), 1);
        c.due("left(0)", x.left(0), 1);
        c.due("left(1)", x.left(1), 999);
    }

    private void sixtyTins() {
        s.promise(31, "A TIN: its number. NONE: 2; 3.");
        WallHouse x = dotTown(1);
        c.due("the first", x.tin(0, 1), 0);
        c.refused(x, "a wrong one", x.tin(8, 1), 2);
        s.term("I", "TINS 60");
        for (int i = 1; i < 60; i++) {
            c.due("tin " + i, x.tin(i == 59 ? 1 : 0, 5), i);
        }
        c.refused(x, "a 61st", x.tin(1, 5), 3);
        c.refused(x, "2 ahead of 3", x.tin(1, 0), 2);
        c.due("count(6)", x.count(6), 60);
        x.work(0, 0, 0);
        finish(x);
        c.due("the last is used", x.left(59), 4);
        c.due("the last is shown", x.shows(59), 1);
        c.due("led to it", x.led(0, 0, 0, 2), 59);
    }

    private void tinsByNumber() {
        s.term("V", "a WORK's CELLS, by number, use those of their COLOUR by number, as far as they go");
        WallHouse x = Check.town(3, 2, 0);
        x.tin(1, 2);
        x.tin(2, 1);
        x.tin(1, 1);
        x.tin(2, 1);
        Check.draw(x, "rect 1 0 0 3 2;rect 2 1 0 1 2");
        x.work(0, 0, 0);
        finish(x);
        int[] due = {0, 1, 0, 2, 3, -2};
        for (int cell = 0; cell < 6; cell++) {
            c.due("tin of cell " + cell, x.led(0, cell % 3, cell / 3, 2), due[cell]);
        }
        for (int tin = 0; tin < 4; tin++) {
            c.due("left(" + tin + ")", x.left(tin), 0);
        }
        s.term("V", "LACKING: CELLS for which there was none (they are painted all the same, of no TIN)");
        c.due("one lacks", x.workOf(0, 7), 1);
        c.due("it is painted", x.cell(0, 2, 1), 1);
        x.work(0, 0, 0);
        finish(x);
        c.due("all lack", x.workOf(1, 7), 6);
        c.due("they are painted", x.about(0, 8), 6);
        x.tin(1, 4);
        x.tin(2, 999);
        x.work(0, 0, 0);
        finish(x);
        c.due("just enough", x.workOf(2, 7), 0);
        c.due("left(4)", x.left(4), 0);
        c.due("left(5)", x.left(5), 997);
    }

    private void tinsOfTwoWorks() {
        s.term("V", "TINS are used then");
        WallHouse x = dotTown(2);
        x.tin(1, 1);
        x.work(1, 0, 0);
        x.work(0, 0, 0);
        c.due("not as it is begun", x.left(0), 1);
        c.due("both over on one day", finish(x), 2);
        c.due("the lesser number has it", x.led(1, 0, 0, 2), 0);
        c.due("the other lacks", x.workOf(1, 7), 1);
        c.due("led to none", x.led(0, 0, 0, 2), -2);
    }

    private void tinsLate() {
        s.term("V", "as far as they go");
        WallHouse x = dotTown(1);
        x.work(0, 0, 0);
        Check.sunny(x, 0, 3);
        x.pass(3);
        x.tin(1, 5);
        x.pass(1);
        c.due("a tin that came ahead of its end", x.led(0, 0, 0, 2), 0);
        x.tin(1, 5);
        c.due("one that came behind it", x.shows(1), 0);
    }

    private void leftOthers() {
        s.promise(32, "CELLS that a TIN is good for yet; NONE.");
        c.due("no tin", new WallHouse().left(0), NONE);
        WallHouse x = dotTown(1);
        x.tin(1, 2);
        for (int n : new int[] {MIN, -1, 1, 60, MAX}) {
            c.due("left(" + n + ")", x.left(n), NONE);
        }
        int[] due = {2, 1, 0, 0};
        for (int i = 0; i < due.length; i++) {
            c.due("behind " + i + " works", x.left(0), due[i]);
            x.work(0, 0, 0);
            finish(x);
        }
    }

    private void cellOthers() {
        s.promise(34, "COLOUR of a WALL's CELL; -2 if it is bare; NONE.");
        c.due("no wall", new WallHouse().cell(0, 0, 0), NONE);
        WallHouse x = Check.town(3, 2, 0);
        Check.draw(x, "disc 0 2 1 0;disc 7 0 1 0");
        x.work(0, 0, 0);
        finish(x);
        c.due("colour 0", x.cell(0, 2, 1), 0);
        c.due("colour 7", x.cell(0, 0, 1), 7);
        c.due("bare", x.cell(0, 0, 0), -2);
        int[][] beyond = {{0, -1, 0}, {0, 0, -1}, {0, 3, 0}, {0, 0, 2}, {0, 5, 0}, {0, -1, 1}, {1, 0, 0}, {-1, 0, 0}, {16, 0, 0},
            {0, MIN, 0}, {0, 0, MIN}, {0, MAX, 0}, {0, 0, MAX}, {MIN, 0, 0}, {MAX, 0, 0}};
        for (int[] at : beyond) {
            c.due("cell(" + at[0] + ", " + at[1] + ", " + at[2] + ")", x.cell(at[0], at[1], at[2]), NONE);
        }
    }

    private void looksOthers() {
        s.promise(35, "-2 if no WORK there is over; NONE.");
        c.due("no wall", new WallHouse().looks(0, 0), NONE);
        WallHouse x = dotTown(2);
        for (int n : new int[] {MIN, -1, 2, 16, MAX}) {
            c.due("looks(" + n + ", 0)", x.looks(n, 0), NONE);
        }
        for (int n : new int[] {MIN, -1, 8, MAX}) {
            c.due("looks(0, " + n + ")", x.looks(0, n), NONE);
        }
        c.due("no work", x.looks(0, 0), -2);
        x.work(0, 0, 0);
        c.due("none that is over", x.looks(0, 7), -2);
        finish(x);
        c.due("over", x.looks(0, 7), 100);
        c.due("also of a colour that isn't there", x.looks(0, 0), 100);
        c.due("not on another wall", x.looks(1, 0), -2);
        c.due("a number of 8", x.looks(0, 8), NONE);
        x.work(0, 0, 0);
        c.due("by the one that is over", x.looks(0, 0), 100);
    }

    private void looksDays() {
        s.term("V", "for each whole 30 DAYS since the WORK was over");
        WallHouse x = dotTown(1);
        x.work(0, 0, 0);
        finish(x);
        int[] days = {1, 29, 30, 31, 59, 60, 89, 90};
        int[] due = {100, 100, 99, 99, 99, 98, 98, 97};
        for (int i = 0; i < days.length; i++) {
            Check.passTo(x, 3 + days[i]);
            c.due(days[i] + " days", x.looks(0, 0), due[i]);
        }
        x.work(0, 0, 0);
        Check.sunny(x, 93, 96);
        x.pass(3);
        c.due("the new one isn't over", x.looks(0, 0), 97);
        x.pass(1);
        c.due("it is new again", x.looks(0, 0), 100);
        Check.passTo(x, 125);
        c.due("29 days since", x.looks(0, 0), 100);
        x.pass(1);
        c.due("30 days since", x.looks(0, 0), 99);
    }

    private void looksColours() {
        s.term("V", "a number by SIDE (1, 2, 3, 2) and by one more for COLOURS above 4");
        int[] fades = {1, 2, 3, 2};
        for (int side = 0; side < 4; side++) {
            WallHouse x = Check.town(1, 1, side);
            Check.draw(x, DOT);
            x.work(0, 0, 0);
            finish(x);
            Check.passTo(x, 63);
            for (int colour = 0; colour < 8; colour++) {
                int fade = fades[side] + (colour > 4 ? 1 : 0);
                c.due("side " + side + ", colour " + colour, x.looks(0, colour), 100 - 2 * fade);
            }
        }
    }

    private void looksLeast() {
        s.term("V", "0 at least");
        WallHouse x = Check.town(1, 1, 2);
        Check.draw(x, DOT);
        x.work(0, 0, 0);
        finish(x);
        Check.passTo(x, 3 + 30 * 24);
        c.due("24 times 4", x.looks(0, 5), 4);
        Check.passTo(x, 3 + 30 * 25);
        c.due("25 times 4", x.looks(0, 5), 0);
        Check.passTo(x, 3 + 30 * 26);
        c.due("26 times 4", x.looks(0, 5), 0);
        Check.passTo(x, 3 + 30 * 33);
        c.due("33 times 3", x.looks(0, 0), 1);
        Check.passTo(x, 3 + 30 * 34);
        c.due("34 times 3", x.looks(0, 0), 0);
        Check.passTo(x, 3649);
        c.due("on the last day", x.looks(0, 0), 0);
        c.due("pale by 1", x.pale(1), 1);
        c.due("none is below 0", x.pale(0), 0);
    }

    private void paleRange() {
        s.promise(36, "PALE by a bound (0 .. 100); NONE (2)");
        WallHouse x = dotTown(2);
        for (int bound : new int[] {MIN, -1, 101, MAX}) {
            c.refused(x, "pale(" + bound + ")", x.pale(bound), 2);
        }
        c.due("0", x.pale(0), 0);
        c.due("trouble()", x.trouble(), 0);
        c.due("100", x.pale(100), 0);
        x.work(0, 0, 0);
        x.work(1, 0, 0);
        finish(x);
        c.due("new ones aren't below 100", x.pale(100), 0);
        Check.passTo(x, 33);
        c.due("99 isn't below 99", x.pale(99), 0);
        c.due("99 is below 100", x.pale(100), 2);
        c.due("no wall at all", new WallHouse().pale(100), 0);
    }

    private void paleMean() {
        s.term("V", "the mean of whose painted CELLS' LOOKS, downwards, is below a bound");
        WallHouse x = Check.town(3, 1, 0);
        Check.draw(x, "rect 4 0 0 2 1;disc 5 2 0 0");
        x.work(0, 0, 0);
        finish(x);
        Check.passTo(x, 33);
        c.due("99, 99, 98: 98", x.pale(98), 0);
        c.due("below 99", x.pale(99), 1);
        x.hole(0, 2, 0, 1, 1);
        c.due("99, 99", x.pale(99), 0);
        c.due("below 100", x.pale(100), 1);
    }

    private void paleBare() {
        s.term("V", "PALE: WALLS the mean of whose painted CELLS' LOOKS");
        WallHouse x = Check.town(1, 1, 0);
        Check.draw(x, "disc 1 9 9 0");
        Check.draw(x, DOT);
        x.work(0, 0, 0);
        finish(x);
        Check.passTo(x, 400);
        c.due("a work of no cell", x.pale(100), 0);
        c.due("has looks", x.looks(0, 0), 87);
        x.leave(0, 0, 9, true);
        x.work(0, 0, 1);
        finish(x);
        Check.passTo(x, 500);
        c.due("a painted one", x.pale(100), 1);
        x.hole(0, 0, 0, 1, 1);
        c.due("all of it is holes", x.pale(100), 0);
    }
}
