import java.util.ArrayList;
import java.util.HashMap;
import java.util.List;
import java.util.Map;
import java.util.TreeMap;

/** A second writing of the document, as plain as it goes and slow, for tests to compare with. */
final class Oracle {
    static final class Bad extends RuntimeException {
        private static final long serialVersionUID = 1L;
        final int fault;
        final int place;

        Bad(int fault, int place) {
            super(null, null, false, false);
            this.fault = fault;
            this.place = place;
        }
    }

    /** A TOKEN: w a word, n a whole, s a sign, e the end, b a byte that begins none. */
    record Token(char kind, String text, int place) { }

    static List<Token> tokens(String text) {
        List<Token> all = new ArrayList<>();
        int at = 0;
        while (at < text.length()) {
            char c = text.charAt(at);
            int from = at;
            if (c == 32 || c == 10) {
                at++;
                continue;
            }
            if (c >= 'a' && c <= 'z') {
                while (at < text.length() && text.charAt(at) >= 'a' && text.charAt(at) <= 'z') {
                    at++;
                }
                all.add(new Token(at - from > 8 ? 'b' : 'w', text.substring(from, at), from));
            } else if (c >= '0' && c <= '9') {
                while (at < text.length() && text.charAt(at) >= '0' && text.charAt(at) <= '9') {
                    at++;
                }
                all.add(new Token(at - from > 3 ? 'b' : 'n', text.substring(from, at), from));
            } else {
                at++;
                all.add(new Token("[]();<>=+-*/,%".indexOf(c) >= 0 ? 's' : 'b', text.substring(from, at), from));
            }
        }
        all.add(new Token('e', "", text.length()));
        return all;
    }

    // ---- drawings: a tree

    record Sum(char sign, int whole, String name, Sum left, Sum right) { }

    record Step(String kind, int colour, String word, List<Sum> sums, char sign, List<Step> inner) { }

    static final class Parser {
        final List<Token> all;
        int at;
        int steps;
        int parts;

        Parser(String text) {
            all = tokens(text);
        }

        Token now() {
            return all.get(at);
        }

        boolean is(String text) {
            return (now().kind == 'w' || now().kind == 's') && now().text.equals(text);
        }

        void need(boolean good, int fault) {
            if (!good) {
                throw new Bad(fault, now().place);
            }
        }

        void take(String text) {
            need(is(text), 1);
            at++;
        }

        List<Step> whole() {
            List<Step> text = text(0);
            need(now().kind == 'e', 1);
            return text;
        }

        List<Step> text(int deep) {
            List<Step> steps = new ArrayList<>();
            steps.add(step(deep));
            while (is(";")) {
                at++;
                steps.add(step(deep));
            }
            return steps;
        }

        Step step(int deep) {
            need(now().kind == 'w', 1);
            String kind = now().text;
            need(List.of("rect", "disc", "say", "each", "if").contains(kind), 2);
            need(++steps <= 40, 4);
            at++;
            List<Sum> sums = new ArrayList<>();
            if (kind.equals("each")) {
                need(now().kind == 'w' && List.of("i", "j", "k", "m", "n").contains(now().text), 1);
                String name = now().text;
                at++;
                take("from");
                sums.add(sum(0));
                take("to");
                sums.add(sum(0));
                return new Step(kind, 0, name, sums, ' ', block(deep));
            }
            if (kind.equals("if")) {
                sums.add(sum(0));
                need(is("<") || is(">") || is("="), 1);
                char sign = now().text.charAt(0);
                at++;
                sums.add(sum(0));
                return new Step(kind, 0, "", sums, sign, block(deep));
            }
            need(now().kind == 'n', 1);
            int colour = Integer.parseInt(now().text);
            need(colour <= 7, 3);
            at++;
            String word = "";
            if (kind.equals("say")) {
                need(now().kind == 'w', 1);
                word = now().text;
                at++;
            }
            int many = kind.equals("rect") ? 4 : kind.equals("disc") ? 3 : 2;
            for (int i = 0; i < many; i++) {
                sums.add(sum(0));
            }
            return new Step(kind, colour, word, sums, ' ', null);
        }

        List<Step> block(int deep) {
            need(is("["), 1);
            need(deep < 6, 4);
            at++;
            List<Step> inner = text(deep + 1);
            take("]");
            return inner;
        }

        Sum sum(int deep) {
            Sum left = term(deep);
            while (is("+") || is("-")) {
                char sign = now().text.charAt(0);
                at++;
                left = new Sum(sign, 0, null, left, term(deep));
            }
            return left;
        }

        Sum term(int deep) {
            Sum left = part(deep);
            while (is("*") || is("/")) {
                char sign = now().text.charAt(0);
                at++;
                left = new Sum(sign, 0, null, left, part(deep));
            }
            return left;
        }

        Sum part(int deep) {
            if (is("(")) {
                need(deep < 6, 4);
                at++;
                Sum inner = sum(deep + 1);
                take(")");
                return inner;
            }
            need(now().kind == 'n' || now().kind == 'w', 1);
            if (now().kind == 'w') {
                need(!List.of("rect", "disc", "say", "each", "from", "to", "if").contains(now().text), 1);
                need(List.of("i", "j", "k", "m", "n", "wide", "high").contains(now().text), 2);
            }
            need(++parts <= 120, 4);
            Token t = now();
            at++;
            return t.kind == 'n' ? new Sum('n', Integer.parseInt(t.text), null, null, null)
                    : new Sum('v', 0, t.text, null, null);
        }
    }

    static final class Spent extends RuntimeException {
        private static final long serialVersionUID = 1L;

        Spent() {
            super(null, null, false, false);
        }
    }

    static final class Picture {
        final int wide;
        final int high;
        final boolean[][] hole;
        final int[][] cells;
        final Map<String, Integer> vars = new HashMap<>();
        final List<String> shown = new ArrayList<>();
        int steps;
        boolean spent;
        int barsShown;

        Picture(WallO w) {
            wide = w.wide;
            high = w.high;
            hole = w.hole;
            cells = new int[high][wide];
            for (int[] row : cells) {
                java.util.Arrays.fill(row, -2);
            }
        }

        void paint(List<Step> text) {
            try {
                all(text);
            } catch (Spent s) {
                spent = true;
            }
        }

        void all(List<Step> text) {
            for (Step s : text) {
                if (steps == 1500) {
                    throw new Spent();
                }
                steps++;
                one(s);
            }
        }

        void one(Step s) {
            int[] v = new int[s.sums.size()];
            for (int i = 0; i < v.length; i++) {
                v[i] = value(s.sums.get(i));
            }
            switch (s.kind) {
                case "rect":
                    shape(s.colour, (x, y) -> x >= v[0] && x < v[0] + v[2] && y >= v[1] && y < v[1] + v[3]);
                    break;
                case "disc":
                    shape(s.colour, (x, y) -> v[2] >= 0
                            && (x - v[0]) * (x - v[0]) + (y - v[1]) * (y - v[1]) <= v[2] * v[2]);
                    break;
                case "say":
                    int end = v[0] + s.word.length();
                    if (v[1] >= 0 && v[1] < high && end > 0 && v[0] < wide) {
                        shown.add(s.word);
                    }
                    shape(s.colour, (x, y) -> y == v[1] && x >= v[0] && x < end);
                    break;
                case "each":
                    for (int i = v[0]; i <= v[1]; i++) {
                        vars.put(s.word, i);
                        all(s.inner);
                    }
                    break;
                default:
                    if (s.sign == '<' ? v[0] < v[1] : s.sign == '>' ? v[0] > v[1] : v[0] == v[1]) {
                        all(s.inner);
                    }
            }
        }

        interface In {
            boolean at(int x, int y);
        }

        void shape(int colour, In in) {
            for (int y = 0; y < high; y++) {
                for (int x = 0; x < wide; x++) {
                    if (!hole[y][x] && in.at(x, y)) {
                        cells[y][x] = colour;
                    }
                }
            }
        }

        int value(Sum s) {
            if (s.sign == 'n') {
                return s.whole;
            }
            if (s.sign == 'v') {
                return s.name.equals("wide") ? wide : s.name.equals("high") ? high : vars.getOrDefault(s.name, 0);
            }
            int a = value(s.left);
            int b = value(s.right);
            int v = s.sign == '+' ? a + b : s.sign == '-' ? a - b : s.sign == '*' ? a * b : b == 0 ? 0 : a / b;
            return v > 9999 ? 9999 : v < -9999 ? -9999 : v;
        }

        int painted() {
            int n = 0;
            for (int[] row : cells) {
                for (int c : row) {
                    n += c == -2 ? 0 : 1;
                }
            }
            return n;
        }
    }

    // ---- what there is

    static final class WallO {
        int wide;
        int high;
        int side;
        int owner;
        int from = 1;
        int to = 0;
        boolean carries;
        int themes;
        boolean[][] hole;
        int[][] cells;
        int[][] tin;
        int over = -2;
    }

    static final class WorkO {
        int wall;
        int painter;
        int drawing;
        int under = 1;
        int dry = 2;
        int coat;
        int overDay = -2;
        int cells;
        int lacking;
        int[][] will;

        int need() {
            return under + dry + coat;
        }

        WorkO copy() {
            WorkO c = new WorkO();
            c.under = under;
            c.dry = dry;
            c.coat = coat;
            return c;
        }
    }

    final List<WallO> walls = new ArrayList<>();
    final List<List<Step>> drawings = new ArrayList<>();
    final List<String> bars = new ArrayList<>();
    final List<List<int[]>> rights = new ArrayList<>();
    final List<int[]> painters = new ArrayList<>();
    final List<WorkO> works = new ArrayList<>();
    final List<int[]> tins = new ArrayList<>();
    final List<int[]> tags = new ArrayList<>();
    final Map<List<Integer>, Integer> votes = new HashMap<>();
    final Map<List<Integer>, Integer> wishes = new HashMap<>();
    final Map<List<Integer>, Integer> ways = new HashMap<>();
    final Map<List<Integer>, Boolean> besides = new HashMap<>();
    final Map<Integer, Boolean> days = new HashMap<>();
    Map<Integer, Integer> given = new TreeMap<>();
    final StringBuilder tape = new StringBuilder();
    Picture sketch;
    int today;
    int lifts = 2;
    int trouble;
    int fault;
    int place = -1;
    int trailOf = -1;

    int no(int why) {
        trouble = why;
        return -1;
    }

    int ok(int answer) {
        trouble = 0;
        return answer;
    }

    /** Booleans as 1 and 0. */
    int deny(int why) {
        trouble = why;
        return 0;
    }

    static boolean in(int v, int a, int b) {
        return v >= a && v <= b;
    }

    boolean isWall(int w) {
        return in(w, 0, walls.size() - 1);
    }

    boolean isPainter(int p) {
        return in(p, 0, painters.size() - 1);
    }

    int wall(int wide, int high, int side, int owner) {
        if (!in(wide, 1, 16) || !in(high, 1, 12) || !in(side, 0, 3) || !in(owner, 0, 99)) {
            return no(2);
        }
        if (walls.size() == 16) {
            return no(3);
        }
        WallO w = new WallO();
        w.wide = wide;
        w.high = high;
        w.side = side;
        w.owner = owner;
        w.hole = new boolean[high][wide];
        w.cells = new Picture(w).cells;
        w.tin = new Picture(w).cells;
        walls.add(w);
        return ok(walls.size() - 1);
    }

    boolean leaveNow(WallO w) {
        return in(today / 365, w.from, w.to);
    }

    int openOn(int wall) {
        for (int i = 0; i < works.size(); i++) {
            if (works.get(i).wall == wall && works.get(i).overDay == -2) {
                return i;
            }
        }
        return -2;
    }

    int about(int wall, int what) {
        if (!isWall(wall)) {
            return -1;
        }
        WallO w = walls.get(wall);
        int holes = 0;
        int painted = 0;
        for (int y = 0; y < w.high; y++) {
            for (int x = 0; x < w.wide; x++) {
                holes += w.hole[y][x] ? 1 : 0;
                painted += w.cells[y][x] != -2 ? 1 : 0;
            }
        }
        int[] all = {w.wide, w.high, w.side, w.owner, leaveNow(w) ? 1 : 0, holes, openOn(wall), w.themes, painted, w.over};
        return in(what, 0, 9) ? all[what] : -1;
    }

    int hole(int wall, int x, int y, int wide, int high) {
        if (!isWall(wall)) {
            return no(1);
        }
        WallO w = walls.get(wall);
        if (x < 0 || y < 0 || wide < 1 || high < 1 || (long) x + wide > w.wide || (long) y + high > w.high) {
            return no(2);
        }
        if (openOn(wall) != -2) {
            return no(5);
        }
        int more = 0;
        for (int cy = y; cy < y + high; cy++) {
            for (int cx = x; cx < x + wide; cx++) {
                more += w.hole[cy][cx] ? 0 : 1;
                w.hole[cy][cx] = true;
                w.cells[cy][cx] = -2;
            }
        }
        return ok(more);
    }

    int leave(int wall, int from, int to, boolean carries) {
        if (!isWall(wall)) {
            return deny(1);
        }
        if (from < 0 || to > 9 || from > to) {
            return deny(2);
        }
        walls.get(wall).from = from;
        walls.get(wall).to = to;
        walls.get(wall).carries = carries;
        return ok(1);
    }

    int sold(int wall, int owner) {
        if (!isWall(wall)) {
            return deny(1);
        }
        if (!in(owner, 0, 99)) {
            return deny(2);
        }
        WallO w = walls.get(wall);
        w.owner = owner;
        if (!w.carries) {
            w.to = Math.min(w.to, today / 365 - 1);
        }
        return ok(1);
    }

    int beside(int a, int b, boolean is) {
        if (!isWall(a) || !isWall(b) || a == b) {
            return deny(1);
        }
        besides.put(List.of(Math.min(a, b), Math.max(a, b)), is);
        return ok(1);
    }

    boolean areBeside(int a, int b) {
        return besides.getOrDefault(List.of(Math.min(a, b), Math.max(a, b)), false);
    }

    int minutes(int a, int b, int v) {
        if (!isWall(a) || !isWall(b) || a == b) {
            return deny(1);
        }
        if (!in(v, 1, 120)) {
            return deny(2);
        }
        ways.put(List.of(Math.min(a, b), Math.max(a, b)), v);
        return ok(1);
    }

    int way(int a, int b) {
        return a == b ? 0 : ways.getOrDefault(List.of(Math.min(a, b), Math.max(a, b)), 60);
    }

    int feed(int... five) {
        if (tape.length() + 20 > 400) {
            return -1;
        }
        for (int v : five) {
            tape.append((char) (v >>> 24)).append((char) (v >>> 16 & 255)).append((char) (v >>> 8 & 255)).append((char) (v & 255));
        }
        return tape.length();
    }

    interface Reader {
        int read(String text);
    }

    int text(int n, Reader reader) {
        if (!in(n, 0, tape.length())) {
            return no(2);
        }
        String text = tape.substring(0, n);
        tape.setLength(0);
        fault = 0;
        try {
            return reader.read(text);
        } catch (Bad b) {
            fault = b.fault;
            place = b.place;
            return no(4);
        }
    }

    int drawing(int n) {
        return text(n, text -> {
            List<Step> d = new Parser(text).whole();
            if (drawings.size() == 12) {
                return no(3);
            }
            drawings.add(d);
            return ok(drawings.size() - 1);
        });
    }

    int bar(int n) {
        return text(n, text -> {
            for (int i = 0; i < text.length(); i++) {
                if (i == 8 || text.charAt(i) < 'a' || text.charAt(i) > 'z') {
                    throw new Bad(1, i);
                }
            }
            if (text.isEmpty()) {
                throw new Bad(1, 0);
            }
            if (bars.size() == 12) {
                return no(3);
            }
            bars.add(text);
            return ok(bars.size());
        });
    }

    int right(int n) {
        return text(n, text -> {
            List<int[]> lines = lines(new Parser(text));
            if (rights.size() == 8) {
                return no(3);
            }
            rights.add(lines);
            return ok(rights.size() - 1);
        });
    }

    static List<int[]> lines(Parser p) {
        List<int[]> lines = new ArrayList<>();
        int sum = 0;
        while (true) {
            p.need(p.now().kind == 'w' && !p.is("rest"), 1);
            int who = List.of("painter", "owner", "town", "school").indexOf(p.now().text);
            p.need(who >= 0, 2);
            p.need(lines.size() < 8, 4);
            p.at++;
            if (p.is("rest")) {
                lines.add(new int[] {who, -1});
                p.at++;
            } else {
                p.need(p.now().kind == 'n', 1);
                int v = Integer.parseInt(p.now().text);
                sum += v;
                p.need(sum <= 100, 3);
                p.at++;
                p.take("%");
                lines.add(new int[] {who, v});
            }
            if (p.now().kind == 'e') {
                return lines;
            }
            p.take(",");
        }
    }

    int where() {
        return trouble == 4 ? place : -1;
    }

    Picture picture(int drawing, int wall) {
        Picture p = new Picture(walls.get(wall));
        p.paint(drawings.get(drawing));
        for (String bar : bars) {
            p.barsShown += p.shown.contains(bar) ? 1 : 0;
        }
        return p;
    }

    int sketch(int drawing, int wall) {
        if (!in(drawing, 0, drawings.size() - 1) || !isWall(wall)) {
            return no(1);
        }
        sketch = picture(drawing, wall);
        return ok(sketch.painted());
    }

    int sketched(int x, int y) {
        return sketch == null || !in(x, 0, sketch.wide - 1) || !in(y, 0, sketch.high - 1) ? -1 : sketch.cells[y][x];
    }

    int sketchOf(int what) {
        if (sketch == null || !in(what, 0, 10)) {
            return -1;
        }
        if (what > 7) {
            return what == 8 ? sketch.steps : what == 9 ? sketch.spent ? 1 : 0 : sketch.barsShown;
        }
        int n = 0;
        for (int[] row : sketch.cells) {
            for (int c : row) {
                n += c == what ? 1 : 0;
            }
        }
        return n;
    }

    int unlike(int wall) {
        if (!isWall(wall) || sketch == null || walls.get(wall).wide != sketch.wide || walls.get(wall).high != sketch.high) {
            return -1;
        }
        int n = 0;
        for (int y = 0; y < sketch.high; y++) {
            for (int x = 0; x < sketch.wide; x++) {
                n += sketch.cells[y][x] != walls.get(wall).cells[y][x] ? 1 : 0;
            }
        }
        return n;
    }

    int painter(int style, int kin) {
        if (!in(style, 0, 5) || !in(kin, 0, 99)) {
            return no(2);
        }
        if (painters.size() == 10) {
            return no(3);
        }
        painters.add(new int[] {style, kin});
        return ok(painters.size() - 1);
    }

    int wish(int p, int w, int v) {
        if (!isPainter(p) || !isWall(w)) {
            return deny(1);
        }
        if (!in(v, 0, 9)) {
            return deny(2);
        }
        wishes.put(List.of(p, w), v);
        return ok(1);
    }

    int vote(int n, int p, int w, int v) {
        if (!isPainter(p) || !isWall(w)) {
            return deny(1);
        }
        if (!in(n, 0, 99) || !in(v, 0, 5)) {
            return deny(2);
        }
        if (painters.get(p)[1] == n) {
            return deny(5);
        }
        if (!votes.containsKey(List.of(n, p, w)) && votes.size() == 300) {
            return deny(3);
        }
        votes.put(List.of(n, p, w), v);
        return ok(1);
    }

    int liked(int p, int w) {
        if (!isPainter(p) || !isWall(w)) {
            return -1;
        }
        int sum = 10 * wishes.getOrDefault(List.of(p, w), 0);
        for (Map.Entry<List<Integer>, Integer> e : votes.entrySet()) {
            sum += e.getKey().get(1) == p && e.getKey().get(2) == w ? e.getValue() : 0;
        }
        return sum;
    }

    int worksBy(int p) {
        int n = 0;
        for (WorkO w : works) {
            n += w.painter == p ? 1 : 0;
        }
        return n;
    }

    private int[] bestGift;
    private int bestLiked;
    private int bestWorks;

    int give(int bits) {
        if (bits <= 0 || bits >= 1 << walls.size()) {
            return no(1);
        }
        List<Integer> asked = new ArrayList<>();
        for (int i = 0; i < walls.size(); i++) {
            if ((bits & 1 << i) != 0) {
                asked.add(i);
            }
        }
        for (int w : asked) {
            if (!leaveNow(walls.get(w)) || openOn(w) != -2) {
                return no(5);
            }
        }
        if (asked.size() > 6) {
            return no(6);
        }
        bestLiked = -1;
        tryAll(asked, 0, new int[asked.size()]);
        given = new TreeMap<>();
        for (int i = 0; i < asked.size(); i++) {
            given.put(asked.get(i), bestGift[i]);
        }
        return ok(bestLiked);
    }

    private void tryAll(List<Integer> asked, int at, int[] to) {
        if (at == asked.size()) {
            judge(asked, to);
            return;
        }
        next:
        for (int p = 0; p < painters.size(); p++) {
            for (int i = 0; i < at; i++) {
                if (to[i] == p) {
                    continue next;
                }
            }
            to[at] = p;
            tryAll(asked, at + 1, to);
        }
        to[at] = -2;
        tryAll(asked, at + 1, to);
    }

    /** They come in the order that decides last, so only a better one takes the place. */
    private void judge(List<Integer> asked, int[] to) {
        int sum = 0;
        int had = 0;
        for (int i = 0; i < to.length; i++) {
            if (to[i] == -2) {
                continue;
            }
            int like = liked(to[i], asked.get(i));
            if (like == 0) {
                return;
            }
            sum += like;
            had += worksBy(to[i]);
            int style = painters.get(to[i])[0];
            for (int w = 0; w < walls.size(); w++) {
                if (!areBeside(w, asked.get(i))) {
                    continue;
                }
                int j = asked.indexOf(w);
                int other = -2;
                if (j >= 0) {
                    other = to[j];
                } else {
                    for (WorkO k : works) {
                        other = k.wall == w ? k.painter : other;
                    }
                }
                if (other != -2 && painters.get(other)[0] == style) {
                    return;
                }
            }
        }
        if (sum > bestLiked || sum == bestLiked && had < bestWorks) {
            bestLiked = sum;
            bestWorks = had;
            bestGift = to.clone();
        }
    }

    int given(int wall) {
        return given.getOrDefault(wall, -1);
    }

    int work(int wall, int painter, int drawing) {
        if (!isWall(wall) || !isPainter(painter) || !in(drawing, 0, drawings.size() - 1)) {
            return no(1);
        }
        Picture p = picture(drawing, wall);
        if (!leaveNow(walls.get(wall)) || openOn(wall) != -2 || p.barsShown > 0) {
            return no(5);
        }
        if (works.size() == 40) {
            return no(3);
        }
        WorkO w = new WorkO();
        w.wall = wall;
        w.painter = painter;
        w.drawing = drawing;
        w.will = p.cells;
        w.cells = p.painted();
        w.coat = Math.max(1, w.cells / 24 + (w.cells % 24 > 0 ? 1 : 0));
        works.add(w);
        return ok(works.size() - 1);
    }

    int workOf(int work, int what) {
        if (!in(work, 0, works.size() - 1) || !in(what, 0, 7)) {
            return -1;
        }
        WorkO w = works.get(work);
        int stage = w.under > 0 ? 0 : w.dry > 0 ? 1 : w.coat > 0 ? 2 : 3;
        return new int[] {w.wall, w.painter, w.drawing, stage, w.need(), w.overDay, w.cells, w.lacking}[what];
    }

    int weather(int day, int degrees, int rain) {
        if (!in(day, today, 3649) || !in(degrees, -40, 50) || !in(rain, 0, 200)) {
            return deny(2);
        }
        days.put(day, degrees >= 10 && rain == 0);
        return ok(1);
    }

    int lifts(int v) {
        if (!in(v, 1, 5)) {
            return deny(2);
        }
        lifts = v;
        return ok(1);
    }

    void day(int day, List<WorkO> all) {
        if (!days.getOrDefault(day, false)) {
            return;
        }
        int free = lifts;
        for (WorkO w : all) {
            if (w.under > 0) {
                if (free > 0) {
                    free--;
                    w.under--;
                }
            } else if (w.dry > 0) {
                w.dry--;
            } else if (w.coat > 0 && free > 0) {
                free--;
                w.coat--;
            }
        }
    }

    /** The day on which each would be over, -2 if it wouldn't. */
    int[] ends(int last) {
        List<WorkO> copies = new ArrayList<>();
        int[] ends = new int[works.size()];
        for (WorkO w : works) {
            copies.add(w.copy());
        }
        for (int i = 0; i < ends.length; i++) {
            ends[i] = works.get(i).overDay;
        }
        for (int d = today; d <= last; d++) {
            day(d, copies);
            for (int i = 0; i < ends.length; i++) {
                ends[i] = ends[i] == -2 && copies.get(i).need() == 0 ? d : ends[i];
            }
        }
        return ends;
    }

    int end(int work) {
        return in(work, 0, works.size() - 1) ? ends(3649)[work] : -1;
    }

    int ready(int day) {
        if (!in(day, today, 3649)) {
            return -1;
        }
        int[] ends = ends(day);
        int n = 0;
        for (int i = 0; i < ends.length; i++) {
            n += works.get(i).overDay == -2 && ends[i] != -2 ? 1 : 0;
        }
        return n;
    }

    int tin(int colour, int cells) {
        if (!in(colour, 0, 7) || !in(cells, 1, 999)) {
            return no(2);
        }
        if (tins.size() == 60) {
            return no(3);
        }
        tins.add(new int[] {colour, cells});
        return ok(tins.size() - 1);
    }

    int left(int tin) {
        return in(tin, 0, tins.size() - 1) ? tins.get(tin)[1] : -1;
    }

    int pass(int n) {
        if (!in(n, 1, 100) || today + n > 3649) {
            return no(2);
        }
        int over = 0;
        for (int i = 0; i < n; i++) {
            day(today, works);
            for (int k = 0; k < works.size(); k++) {
                WorkO w = works.get(k);
                if (w.need() == 0 && w.overDay == -2) {
                    w.overDay = today;
                    over++;
                    hang(k, w);
                }
            }
            today++;
        }
        return ok(over);
    }

    private void hang(int number, WorkO w) {
        WallO wall = walls.get(w.wall);
        wall.over = number;
        for (int y = 0; y < wall.high; y++) {
            for (int x = 0; x < wall.wide; x++) {
                wall.cells[y][x] = w.will[y][x];
                wall.tin[y][x] = -2;
                if (w.will[y][x] == -2) {
                    continue;
                }
                for (int t = 0; t < tins.size() && wall.tin[y][x] == -2; t++) {
                    if (tins.get(t)[0] == w.will[y][x] && tins.get(t)[1] > 0) {
                        tins.get(t)[1]--;
                        wall.tin[y][x] = t;
                    }
                }
                w.lacking += wall.tin[y][x] == -2 ? 1 : 0;
            }
        }
    }

    int cell(int wall, int x, int y) {
        return isWall(wall) && in(x, 0, walls.get(wall).wide - 1) && in(y, 0, walls.get(wall).high - 1)
                ? walls.get(wall).cells[y][x] : -1;
    }

    int looks(int wall, int colour) {
        if (!isWall(wall) || !in(colour, 0, 7)) {
            return -1;
        }
        WallO w = walls.get(wall);
        if (w.over == -2) {
            return -2;
        }
        int v = 100;
        for (int d = works.get(w.over).overDay + 30; d <= today; d += 30) {
            v -= (w.side == 0 ? 1 : w.side == 2 ? 3 : 2) + (colour > 4 ? 1 : 0);
        }
        return Math.max(0, v);
    }

    int pale(int bound) {
        if (!in(bound, 0, 100)) {
            return no(2);
        }
        int n = 0;
        for (int i = 0; i < walls.size(); i++) {
            int sum = 0;
            int cells = 0;
            for (int[] row : walls.get(i).cells) {
                for (int c : row) {
                    sum += c == -2 ? 0 : looks(i, c);
                    cells += c == -2 ? 0 : 1;
                }
            }
            n += cells > 0 && sum / cells < bound ? 1 : 0;
        }
        return ok(n);
    }

    int tag(int wall, int within) {
        if (!isWall(wall)) {
            return no(1);
        }
        if (!in(within, 1, 30)) {
            return no(2);
        }
        if (tags.size() == 100) {
            return no(3);
        }
        tags.add(new int[] {wall, today + within, -1});
        return ok(tags.size() - 1);
    }

    int clean(int tag) {
        if (!in(tag, 0, tags.size() - 1)) {
            return deny(1);
        }
        if (tags.get(tag)[2] >= 0) {
            return deny(5);
        }
        tags.get(tag)[2] = today;
        return ok(1);
    }

    int late() {
        int n = 0;
        for (int[] t : tags) {
            n += t[2] < 0 ? today > t[1] ? 1 : 0 : t[2] > t[1] ? 1 : 0;
        }
        return n;
    }

    int round(int minutes) {
        if (!in(minutes, 0, 600)) {
            return no(2);
        }
        if (walls.isEmpty()) {
            return no(1);
        }
        int free = minutes;
        int stand = 0;
        int cleaned = 0;
        while (true) {
            int[] best = null;
            for (int w = 0; w < walls.size(); w++) {
                int day = 99999;
                int many = 0;
                for (int[] t : tags) {
                    if (t[0] == w && t[2] < 0) {
                        day = Math.min(day, t[1]);
                        many++;
                    }
                }
                int[] here = {day, way(stand, w), w, many};
                if (many > 0 && (best == null || java.util.Arrays.compare(here, best) < 0)) {
                    best = here;
                }
            }
            if (best == null || best[1] + 10 * best[3] > free) {
                return ok(cleaned);
            }
            free -= best[1] + 10 * best[3];
            stand = best[2];
            cleaned += best[3];
            for (int[] t : tags) {
                if (t[0] == stand && t[2] < 0) {
                    t[2] = today;
                }
            }
        }
    }

    int themes(int wall, int themes) {
        if (!isWall(wall)) {
            return deny(1);
        }
        if (!in(themes, 0, 1023)) {
            return deny(2);
        }
        walls.get(wall).themes = themes;
        return ok(1);
    }

    private int trailBest;
    private List<Integer> trailList;

    int trail(int themes) {
        if (!in(themes, 0, 1023)) {
            return no(2);
        }
        List<Integer> some = new ArrayList<>();
        int wanted = 0;
        for (int i = 0; i < walls.size(); i++) {
            if ((walls.get(i).themes & themes) != 0) {
                some.add(i);
                wanted |= walls.get(i).themes & themes;
            }
        }
        if (some.size() > 9) {
            return no(6);
        }
        if (some.isEmpty()) {
            return ok(-2);
        }
        trailBest = 99999;
        walk(some, new ArrayList<>(), 0, 0, wanted);
        trailOf = 0;
        for (int w : trailList) {
            trailOf |= 1 << w;
        }
        return ok(trailBest);
    }

    private void walk(List<Integer> some, List<Integer> path, int way, int has, int wanted) {
        if ((has & wanted) == wanted && !path.isEmpty() && way <= trailBest) {
            List<Integer> sorted = new ArrayList<>(path);
            sorted.sort(null);
            if (way < trailBest || sorted.size() < trailList.size()
                    || sorted.size() == trailList.size() && before(sorted, trailList)) {
                trailBest = way;
                trailList = sorted;
            }
        }
        for (int w : some) {
            if (!path.contains(w)) {
                int more = path.isEmpty() ? 0 : way(path.get(path.size() - 1), w);
                path.add(w);
                walk(some, path, way + more, has | walls.get(w).themes, wanted);
                path.remove(path.size() - 1);
            }
        }
    }

    private static boolean before(List<Integer> a, List<Integer> b) {
        for (int i = 0; i < a.size(); i++) {
            if (!a.get(i).equals(b.get(i))) {
                return a.get(i) < b.get(i);
            }
        }
        return false;
    }

    int gets(int right, int fee, int who) {
        if (!in(right, 0, rights.size() - 1)) {
            return no(1);
        }
        if (!in(fee, 0, 1000000) || !in(who, 0, 3)) {
            return no(2);
        }
        int[] has = new int[4];
        int left = fee;
        List<Integer> rests = new ArrayList<>();
        for (int[] line : rights.get(right)) {
            if (line[1] < 0) {
                rests.add(line[0]);
            } else {
                has[line[0]] += fee * line[1] / 100;
                left -= fee * line[1] / 100;
            }
        }
        if (rests.isEmpty()) {
            rests.add(2);
        }
        for (int i = 0; i < rests.size(); i++) {
            has[rests.get(i)] += left / rests.size() + (i == 0 ? left % rests.size() : 0);
        }
        return ok(has[who]);
    }

    int led(int wall, int x, int y, int what) {
        if (cell(wall, x, y) < 0 || !in(what, 0, 2)) {
            return -1;
        }
        WallO w = walls.get(wall);
        return what == 0 ? w.over : what == 1 ? works.get(w.over).painter : w.tin[y][x];
    }

    int shows(int tin) {
        if (!in(tin, 0, tins.size() - 1)) {
            return -1;
        }
        int n = 0;
        for (WallO w : walls) {
            for (int y = 0; y < w.high; y++) {
                for (int x = 0; x < w.wide; x++) {
                    n += w.cells[y][x] != -2 && w.tin[y][x] == tin ? 1 : 0;
                }
            }
        }
        return n;
    }

    int count(int what) {
        int over = 0;
        for (WorkO w : works) {
            over += w.overDay != -2 ? 1 : 0;
        }
        int[] all = {walls.size(), painters.size(), drawings.size(), bars.size(), works.size(), over, tins.size(),
            tags.size(), rights.size(), today, votes.size(), tape.length()};
        return in(what, 0, 11) ? all[what] : -1;
    }
}
