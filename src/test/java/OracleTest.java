import java.util.Random;

/** Made-up runs of 512 calls, each answer compared with the Oracle's; the seeds are fixed. */
public final class OracleTest {
    private static final Check C = new Check();
    private static final int RUNS = 1500;
    private static final String[] STEPS = {"rect", "disc", "say", "each", "if"};
    private static final String[] WORDS = {"rect", "disc", "say", "each", "if", "from", "to", "wide", "high",
        "i", "j", "k", "m", "n", "x", "no", "hi", "abcdefgh", "abcdefghi", "rest", "painter", "owner", "town", "school"};
    private static final String[] SAID = {"no", "hi", "ab", "abcdefgh", "i"};
    private static final String SIGNS = "[]();<>=+-*/,%!A";

    private final Random r;
    private final WallHouse x = new WallHouse();
    private final Oracle o = new Oracle();
    private final int largest;
    private final boolean small;

    private OracleTest(int seed) {
        r = new Random(seed);
        largest = 1 + r.nextInt(16);
        small = r.nextBoolean();
    }

    public static void main(String[] args) {
        for (int seed = 0; seed < RUNS && C.wrongSoFar() == 0; seed++) {
            C.part("run " + seed);
            new OracleTest(seed).run();
        }
        C.end();
    }

    private void run() {
        for (int call = 0; call < 512 && C.wrongSoFar() == 0; call++) {
            if (r.nextInt(3) == 0) {
                ask();
            } else if (call < 40 || r.nextInt(4) == 0) {
                build();
            } else {
                live();
            }
            C.due("trouble()", x.trouble(), o.trouble);
            C.due("where()", x.where(), o.where());
            C.due("fault()", x.fault(), o.fault);
        }
    }

    private int at(int low, int high) {
        int v = low + r.nextInt(high - low + 1);
        return r.nextInt(40) == 0 ? (r.nextBoolean() ? low - 1 : high + 1) : r.nextInt(400) == 0 ? r.nextInt() : v;
    }

    /** One of so many there are, now and then one that isn't. */
    private int of(int count) {
        return count == 0 ? at(0, 0) : at(0, count - 1);
    }

    private int wall() {
        return of(o.walls.size());
    }

    private int painter() {
        return of(o.painters.size());
    }

    private void same(String call, int got, int want) {
        C.due(call, got, want);
    }

    private void same(String call, boolean got, int want) {
        C.due(call, got ? 1 : 0, want);
    }

    private void build() {
        int a = wall();
        int b = wall();
        int p = painter();
        switch (r.nextInt(12)) {
            case 0: case 1: {
                int w = small ? at(1, 4) : at(1, 16);
                int h = small ? at(1, 3) : at(1, 12);
                int s = at(0, 3);
                int own = at(0, 99);
                if (o.walls.size() < largest || r.nextInt(20) == 0) {
                    same("wall", x.wall(w, h, s, own), o.wall(w, h, s, own));
                }
                break;
            }
            case 2: {
                int s = at(0, 5);
                int k = at(0, 9);
                same("painter", x.painter(s, k), o.painter(s, k));
                break;
            }
            case 3: {
                int hx = at(0, 3);
                int hy = at(0, 3);
                int hw = at(1, 2);
                int hh = at(1, 2);
                same("hole", x.hole(a, hx, hy, hw, hh), o.hole(a, hx, hy, hw, hh));
                break;
            }
            case 4: {
                int from = r.nextInt(3) == 0 ? at(0, 9) : 0;
                int to = r.nextInt(3) == 0 ? at(0, 9) : 9;
                boolean c = r.nextBoolean();
                same("leave", x.leave(a, from, to, c), o.leave(a, from, to, c));
                break;
            }
            case 5: {
                boolean is = r.nextInt(4) > 0;
                same("beside", x.beside(a, b, is), o.beside(a, b, is));
                break;
            }
            case 6: {
                int v = r.nextBoolean() ? at(1, 120) : 5 + r.nextInt(3);
                same("minutes", x.minutes(a, b, v), o.minutes(a, b, v));
                break;
            }
            case 7: {
                int t = r.nextInt(3) == 0 ? at(0, 1023) : 1 << r.nextInt(10) | 1 << r.nextInt(10);
                same("themes", x.themes(a, t), o.themes(a, t));
                break;
            }
            case 8: {
                int c = r.nextBoolean() ? at(0, 7) : r.nextInt(2);
                int n = r.nextBoolean() ? at(1, 999) : at(1, 20);
                same("tin", x.tin(c, n), o.tin(c, n));
                break;
            }
            case 9: {
                int v = r.nextBoolean() ? at(0, 9) : at(2, 3);
                same("wish", x.wish(p, a, v), o.wish(p, a, v));
                break;
            }
            default:
                text();
        }
    }

    private void live() {
        int a = wall();
        int p = painter();
        switch (r.nextInt(18)) {
            case 0: case 1: {
                int d = of(o.drawings.size());
                same("work", x.work(a, p, d), o.work(a, p, d));
                break;
            }
            case 2: case 3: case 4: {
                int day = r.nextInt(10) == 0 ? at(0, 3649) : o.today + r.nextInt(12);
                int deg = r.nextInt(4) == 0 ? at(-40, 50) : at(9, 20);
                int rain = r.nextInt(5) == 0 ? at(0, 200) : 0;
                same("weather", x.weather(day, deg, rain), o.weather(day, deg, rain));
                break;
            }
            case 5: case 6: {
                int n = r.nextInt(6) == 0 ? at(1, 100) : at(1, 5);
                same("pass", x.pass(n), o.pass(n));
                break;
            }
            case 7: {
                int v = at(1, 5);
                same("lifts", x.lifts(v), o.lifts(v));
                break;
            }
            case 8: {
                int own = at(0, 99);
                if (r.nextInt(4) == 0) {
                    same("sold", x.sold(a, own), o.sold(a, own));
                }
                break;
            }
            case 9: {
                int n = at(0, 9);
                int v = at(0, 5);
                same("vote", x.vote(n, p, a, v), o.vote(n, p, a, v));
                break;
            }
            case 10: give(); break;
            case 11: {
                int n = r.nextBoolean() ? at(1, 30) : at(1, 3);
                same("tag", x.tag(a, n), o.tag(a, n));
                break;
            }
            case 12: {
                int t = of(o.tags.size());
                same("clean", x.clean(t), o.clean(t));
                break;
            }
            case 13: {
                int m = r.nextBoolean() ? at(0, 600) : at(0, 80);
                same("round", x.round(m), o.round(m));
                break;
            }
            case 14: {
                int t = at(0, 1023);
                if (stops(t) <= 7 || stops(t) > 9 || r.nextInt(200) == 0) {
                    same("trail", x.trail(t), o.trail(t));
                    same("trailOf", x.trailOf(), o.trailOf);
                }
                break;
            }
            case 15: case 16: {
                int d = of(o.drawings.size());
                same("sketch", x.sketch(d, a), o.sketch(d, a));
                break;
            }
            default:
                text();
        }
    }

    private int stops(int themes) {
        int n = 0;
        for (Oracle.WallO w : o.walls) {
            n += (w.themes & themes) != 0 ? 1 : 0;
        }
        return n;
    }

    private void give() {
        int bits = r.nextInt(20) == 0 ? r.nextInt() : 0;
        for (int i = 0; i < o.walls.size() && bits == 0 | r.nextBoolean(); i++) {
            if (r.nextBoolean() && (o.about(i, 4) == 1 && o.about(i, 6) == -2 || r.nextInt(9) == 0)) {
                bits |= 1 << i;
            }
        }
        // The Oracle goes through all of them, so the widest are rare.
        if (Integer.bitCount(bits) * o.painters.size() > 24 && Integer.bitCount(bits) <= 6 && r.nextInt(60) != 0) {
            return;
        }
        same("give " + bits, x.give(bits), o.give(bits));
        for (int w = -1; w <= 16; w++) {
            same("given " + w, x.given(w), o.given(w));
        }
    }

    private void ask() {
        int a = wall();
        int cx = small ? at(0, 4) : at(0, 15);
        int cy = small ? at(0, 3) : at(0, 11);
        switch (r.nextInt(18)) {
            case 0: int w0 = at(0, 9); same("about " + w0, x.about(a, w0), o.about(a, w0)); break;
            case 1: same("cell", x.cell(a, cx, cy), o.cell(a, cx, cy)); break;
            case 2: int w2 = at(0, 2); same("led " + w2, x.led(a, cx, cy, w2), o.led(a, cx, cy, w2)); break;
            case 3: same("sketched", x.sketched(cx, cy), o.sketched(cx, cy)); break;
            case 4: int w4 = at(0, 10); same("sketchOf " + w4, x.sketchOf(w4), o.sketchOf(w4)); break;
            case 5: same("unlike", x.unlike(a), o.unlike(a)); break;
            case 6: int p = painter(); same("liked", x.liked(p, a), o.liked(p, a)); break;
            case 7: case 8: {
                int work = of(o.works.size());
                int what = at(0, 7);
                same("workOf " + what, x.workOf(work, what), o.workOf(work, what));
                break;
            }
            case 9: int e = of(o.works.size()); same("end", x.end(e), o.end(e)); break;
            case 10: int d = r.nextInt(9) == 0 ? at(0, 3649) : o.today + r.nextInt(15); same("ready", x.ready(d), o.ready(d)); break;
            case 11: int t = of(o.tins.size()); same("left", x.left(t), o.left(t)); break;
            case 12: int s = of(o.tins.size()); same("shows", x.shows(s), o.shows(s)); break;
            case 13: int c = at(0, 7); same("looks", x.looks(a, c), o.looks(a, c)); break;
            case 14: int bound = at(0, 100); same("pale", x.pale(bound), o.pale(bound)); break;
            case 15: same("late", x.late(), o.late()); break;
            case 16: {
                int right = of(o.rights.size());
                int fee = r.nextBoolean() ? at(0, 1000000) : at(0, 200);
                int who = at(0, 3);
                same("gets", x.gets(right, fee, who), o.gets(right, fee, who));
                break;
            }
            default: int what = at(0, 11); same("count " + what, x.count(what), o.count(what));
        }
    }

    // ---- texts

    private void text() {
        int kind = r.nextInt(6);
        String text = kind < 4 ? steps(0) : kind == 4 ? lines() : SAID[r.nextInt(SAID.length)];
        while (text.length() > 400) {
            text = steps(3);
        }
        if (r.nextInt(3) == 0) {
            text = spoiled(text);
        }
        int n = text.length();
        for (int from = 0; from < text.length(); from += 20) {
            int[] v = new int[5];
            for (int i = 0; i < 20; i++) {
                v[i / 4] = v[i / 4] << 8 | (from + i < n ? text.charAt(from + i) & 255 : 32);
            }
            same("feed", x.feed(v[0], v[1], v[2], v[3], v[4]), o.feed(v));
        }
        if (r.nextInt(30) == 0) {
            n += r.nextInt(9) - 4;
        }
        String shown = text + " (" + n + ")";
        if (kind < 4) {
            same("drawing " + shown, x.drawing(n), o.drawing(n));
        } else if (kind == 4) {
            same("right " + shown, x.right(n), o.right(n));
        } else {
            same("bar " + shown, x.bar(n), o.bar(n));
        }
        if (r.nextInt(50) == 0) {
            same("feed", x.feed(1, 2, 3, 4, 5), o.feed(1, 2, 3, 4, 5));
        }
    }

    private String gap() {
        return r.nextInt(3) == 0 ? "\n" : " ";
    }

    private String steps(int deep) {
        StringBuilder all = new StringBuilder(step(deep));
        int more = r.nextInt(deep == 0 ? 5 : 3);
        if (deep == 0 && r.nextInt(40) == 0) {
            more = 38 + r.nextInt(5);
            for (int i = 0; i < more; i++) {
                all.append(";say 1a1i");
            }
            return all.toString();
        }
        for (int i = 0; i < more; i++) {
            all.append(r.nextBoolean() ? ";" : " ; ").append(step(deep));
        }
        return all.toString();
    }

    private String step(int deep) {
        String kind = STEPS[r.nextInt(deep > 6 ? 3 : 5)];
        String colour = "" + r.nextInt(8);
        switch (kind) {
            case "rect": return kind + gap() + colour + gap() + sum(0) + gap() + sum(0) + gap() + sum(0) + gap() + sum(0);
            case "disc": return kind + gap() + colour + gap() + sum(0) + gap() + sum(0) + gap() + sum(0);
            case "say": return kind + gap() + colour + gap() + SAID[r.nextInt(SAID.length)] + gap() + sum(0) + gap() + sum(0);
            case "each": return kind + gap() + variable() + gap() + "from " + sum(0) + gap() + "to " + sum(0) + "[" + steps(deep + 1) + "]";
            default: return kind + gap() + sum(0) + "<>=".charAt(r.nextInt(3)) + sum(0) + "[" + steps(deep + 1) + gap() + "]";
        }
    }

    private String variable() {
        return "" + "ijkmn".charAt(r.nextInt(r.nextBoolean() ? 2 : 5));
    }

    private String sum(int deep) {
        StringBuilder all = new StringBuilder(part(deep));
        while (r.nextInt(4) == 0) {
            all.append("+-*/".charAt(r.nextInt(4))).append(part(deep));
        }
        if (deep == 0 && r.nextInt(300) == 0) {
            for (int i = 0; i < 118; i++) {
                all.append('+').append(r.nextInt(10));
            }
        }
        return all.toString();
    }

    private String part(int deep) {
        switch (r.nextInt(10)) {
            case 0: return "(" + (deep > 6 ? "1" : sum(deep + 1)) + ")";
            case 1: return "wide";
            case 2: return "high";
            case 3: case 4: return variable();
            case 5: return "" + r.nextInt(1000);
            default: return "" + r.nextInt(8);
        }
    }

    private String lines() {
        StringBuilder all = new StringBuilder();
        int many = 1 + r.nextInt(r.nextInt(4) == 0 ? 10 : 4);
        for (int i = 0; i < many; i++) {
            all.append(i == 0 ? "" : ",").append(gap()).append(WORDS[20 + r.nextInt(4)]).append(' ');
            all.append(r.nextInt(3) == 0 ? "rest" : r.nextInt(160 / many) + "%");
        }
        return all.toString();
    }

    /** One place of a text left out, doubled, or put in place of by something else. */
    private String spoiled(String text) {
        int at = r.nextInt(text.length() + 1);
        String head = text.substring(0, at);
        String tail = text.substring(at);
        String made;
        switch (r.nextInt(6)) {
            case 0: made = head + tail.substring(Math.min(1, tail.length())); break;
            case 1: made = head + SIGNS.charAt(r.nextInt(SIGNS.length())) + tail; break;
            case 2: made = head + " " + WORDS[r.nextInt(WORDS.length)] + " " + tail; break;
            case 3: made = head + r.nextInt(2000) + tail; break;
            case 4: made = head; break;
            default: made = head + (char) r.nextInt(256) + tail;
        }
        return made.length() > 400 ? made.substring(0, 400) : made;
    }
}
