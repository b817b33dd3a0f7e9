import java.util.ArrayList;
import java.util.List;
import java.util.function.Consumer;

/** Twin towns, one with a call more: a refused call changes nothing, one that only asks not even trouble. */
final class RefusalBounds extends Bounds {
    private record Call(String name, int why, Consumer<WallHouse> call) {
    }

    private final List<Call> calls = new ArrayList<>();

    RefusalBounds(Check c, Sentences s) {
        super(c, s);
    }

    @Override
    void run() {
        refusedCallsChangeNothing();
        askingChangesNothing();
    }

    /** Something of everything: a wall painted, one with a work under way, one without leave. */
    private static WallHouse livelyTown() {
        WallHouse x = new WallHouse();
        x.wall(3, 2, 0, 1);
        x.wall(2, 2, 2, 2);
        x.wall(3, 2, 3, 3);
        x.leave(0, 0, 9, true);
        x.leave(1, 0, 9, false);
        x.hole(0, 2, 1, 1, 1);
        x.beside(0, 1, true);
        x.minutes(0, 1, 7);
        x.painter(1, 5);
        x.painter(1, 6);
        x.wish(0, 0, 3);
        x.wish(1, 1, 2);
        x.vote(1, 0, 0, 4);
        Check.draw(x, "rect 5 0 0 wide high");
        Check.draw(x, "say 2 no 0 0");
        Check.bar(x, "no");
        Check.right(x, "painter 40%,owner rest");
        x.themes(0, 3);
        x.themes(2, 4);
        x.tin(5, 3);
        x.tag(0, 2);
        x.tag(2, 9);
        x.clean(0);
        Check.sunny(x, 0, 20);
        x.work(0, 0, 0);
        x.pass(4);
        x.work(1, 1, 0);
        x.pass(1);
        x.sketch(0, 0);
        x.give(1);
        x.trail(7);
        Check.put(x, "town rest");
        return x;
    }

    /** All that asking tells, but for trouble. */
    private static String looks(WallHouse x) {
        StringBuilder all = new StringBuilder();
        for (int what = 0; what <= 11; what++) {
            all.append(x.count(what)).append(' ');
        }
        for (int wall = 0; wall < 3; wall++) {
            for (int what = 0; what < 10; what++) {
                all.append(x.about(wall, what)).append(' ');
            }
            for (int cell = 0; cell < 6; cell++) {
                all.append(x.cell(wall, cell % 3, cell / 3)).append(' ').append(x.led(wall, cell % 3, cell / 3, 2)).append(' ');
            }
            all.append(x.given(wall)).append(' ').append(x.unlike(wall)).append(' ').append(x.looks(wall, 5)).append(' ');
            all.append(x.liked(0, wall)).append(' ').append(x.liked(1, wall)).append(' ');
        }
        for (int what = 0; what <= 10; what++) {
            all.append(x.sketchOf(what)).append(' ').append(x.sketched(what % 3, what / 3)).append(' ');
        }
        for (int work = 0; work < 2; work++) {
            for (int what = 0; what < 8; what++) {
                all.append(x.workOf(work, what)).append(' ');
            }
            all.append(x.end(work)).append(' ');
        }
        all.append(x.left(0)).append(' ').append(x.shows(0)).append(' ').append(x.late()).append(' ');
        return all.append(x.trailOf()).append(' ').append(x.ready(3649)).append(' ').append(x.fault()).toString();
    }

    /** What comes to light only as the town lives on: the tape, pairs, weather, lifts. */
    private static String livesOn(WallHouse x) {
        StringBuilder all = new StringBuilder();
        all.append(x.right(20)).append(' ').append(x.gets(1, 9, 2)).append(' ').append(x.gets(0, 99, 0)).append(' ');
        all.append(x.trail(7)).append(' ').append(x.pale(100)).append(' ').append(x.pass(2)).append(' ');
        all.append(x.work(0, 0, 0)).append(' ').append(x.pass(3)).append(' ').append(x.give(2)).append(' ').append(x.given(1)).append(' ');
        all.append(x.round(70)).append(' ').append(x.pass(20)).append(' ').append(x.sold(1, 9)).append(' ').append(x.about(1, 4));
        return all.append(' ').append(looks(x)).toString();
    }

    private void add(String name, int why, Consumer<WallHouse> call) {
        calls.add(new Call(name, why, call));
    }

    private void refusedCallsChangeNothing() {
        s.term("VIII", "1 there is none such; 2 a number; 3 no room; 4 a FAULT; 5 not so");
        wallCalls();
        textCalls();
        painterCalls();
        workCalls();
        townCalls();
        for (Call call : calls) {
            WallHouse as = livelyTown();
            WallHouse x = livelyTown();
            call.call.accept(x);
            c.due("trouble() of " + call.name, x.trouble(), call.why);
            c.yes(call.name + " left what is asked", looks(as).equals(looks(x)));
            c.yes(call.name + " left what comes", livesOn(as).equals(livesOn(x)));
        }
    }

    private void wallCalls() {
        add("wall", 2, x -> x.wall(17, 1, 0, 0));
        add("hole 1", 1, x -> x.hole(3, 0, 0, 1, 1));
        add("hole 2", 2, x -> x.hole(0, 0, 0, 4, 1));
        add("hole 5", 5, x -> x.hole(1, 0, 0, 1, 1));
        add("leave 1", 1, x -> x.leave(3, 0, 9, true));
        add("leave 2", 2, x -> x.leave(1, 9, 0, true));
        add("sold 1", 1, x -> x.sold(3, 0));
        add("sold 2", 2, x -> x.sold(1, 100));
        add("beside", 1, x -> x.beside(0, 3, true));
        add("beside itself", 1, x -> x.beside(1, 1, true));
        add("minutes 1", 1, x -> x.minutes(0, 3, 1));
        add("minutes 2", 2, x -> x.minutes(0, 1, 121));
    }

    private void textCalls() {
        add("drawing", 2, x -> x.drawing(21));
        add("bar", 2, x -> x.bar(-1));
        add("right", 2, x -> x.right(21));
        add("sketch of no drawing", 1, x -> x.sketch(2, 1));
        add("sketch on no wall", 1, x -> x.sketch(1, 3));
    }

    private void painterCalls() {
        add("painter", 2, x -> x.painter(6, 0));
        add("wish 1", 1, x -> x.wish(2, 0, 9));
        add("wish 2", 2, x -> x.wish(1, 0, 10));
        add("vote 1", 1, x -> x.vote(1, 2, 0, 5));
        add("vote 2", 2, x -> x.vote(1, 0, 0, 6));
        add("vote 5", 5, x -> x.vote(5, 0, 0, 5));
        add("give 1", 1, x -> x.give(8));
        add("give 5", 5, x -> x.give(2));
        add("give 5 among others", 5, x -> x.give(5));
    }

    private void workCalls() {
        add("work 1", 1, x -> x.work(0, 0, 2));
        add("work 5, no leave", 5, x -> x.work(2, 0, 0));
        add("work 5, under way", 5, x -> x.work(1, 0, 0));
        add("work 5, a bar", 5, x -> x.work(0, 0, 1));
        add("weather, the day", 2, x -> x.weather(4, 0, 0));
        add("weather, degrees", 2, x -> x.weather(6, 51, 0));
        add("weather, rain", 2, x -> x.weather(6, 20, 201));
        add("lifts", 2, x -> x.lifts(6));
        add("tin", 2, x -> x.tin(5, 1000));
        add("pass", 2, x -> x.pass(101));
        add("pass 0", 2, x -> x.pass(0));
        add("pale", 2, x -> x.pale(101));
    }

    private void townCalls() {
        add("tag 1", 1, x -> x.tag(3, 1));
        add("tag 2", 2, x -> x.tag(0, 31));
        add("clean 1", 1, x -> x.clean(2));
        add("clean 5", 5, x -> x.clean(0));
        add("round", 2, x -> x.round(601));
        add("themes 1", 1, x -> x.themes(3, 1));
        add("themes 2", 2, x -> x.themes(0, 1024));
        add("trail", 2, x -> x.trail(1024));
        add("gets 1", 1, x -> x.gets(1, 1, 0));
        add("gets 2", 2, x -> x.gets(0, 1, 4));
    }

    private void askingChangesNothing() {
        s.term("VIII", "TROUBLE of the latest call that may be refused");
        for (int kind = 0; kind < 2; kind++) {
            WallHouse as = livelyTown();
            WallHouse x = livelyTown();
            trouble(as, kind);
            trouble(x, kind);
            askAll(x);
            c.due("trouble()", x.trouble(), kind == 0 ? 4 : 0);
            c.due("where()", x.where(), kind == 0 ? 2 : NONE);
            c.due("fault()", x.fault(), kind == 0 ? 1 : 0);
            c.yes("asking left what is asked", looks(as).equals(looks(x)));
            c.yes("asking left what comes", livesOn(as).equals(livesOn(x)));
        }
    }

    /** A bar with a fault, or a good one; then the tape as it was. */
    private static void trouble(WallHouse x, int kind) {
        x.right(0);
        if (kind == 0) {
            Check.bar(x, "ab9");
        } else {
            Check.bar(x, "ab");
        }
        Check.put(x, "town rest");
    }

    /** Calls that have no number of trouble, asked of what is there and of what isn't. */
    private static void askAll(WallHouse x) {
        looks(x);
        for (int n : new int[] {MIN, -1, 0, 99, MAX}) {
            x.about(n, 0);
            x.about(0, n);
            x.sketched(n, 0);
            x.sketchOf(n);
            x.unlike(n);
            x.liked(n, 0);
            x.given(n);
            x.workOf(n, 0);
            x.end(n);
            x.ready(n);
            x.left(n);
            x.cell(n, 0, 0);
            x.looks(n, 0);
            x.led(n, 0, 0, 0);
            x.shows(n);
            x.count(n);
        }
        x.late();
        x.trailOf();
        x.fault();
        x.where();
        x.trouble();
    }
}
