/** What the tests share: counting wrong answers, and feeding texts. */
final class Check {
    private int wrong;
    private String part = "";

    void part(String name) {
        part = name;
    }

    void due(String call, long got, long want) {
        if (got != want) {
            wrong++;
            if (wrong <= 50) {
                System.out.println(part + ": " + call + " answered " + got + ", due is " + want);
            }
        }
    }

    void yes(String call, boolean got) {
        due(call, got ? 1 : 0, 1);
    }

    void no(String call, boolean got) {
        due(call, got ? 1 : 0, 0);
    }

    /** A call that was refused: its answer, then its trouble. */
    void refused(WallHouse x, String call, int got, int why) {
        due(call, got, WallHouse.NONE);
        due("trouble() behind " + call, x.trouble(), why);
    }

    void denied(WallHouse x, String call, boolean got, int why) {
        no(call, got);
        due("trouble() behind " + call, x.trouble(), why);
    }

    int wrongSoFar() {
        return wrong;
    }

    void end() {
        System.out.println(wrong == 0 ? "all answers are as due" : wrong + " answers are not as due");
        if (wrong != 0) {
            System.exit(1);
        }
    }

    /** Feeds a text, filled up with blanks to whole twenties: its length. */
    static int put(WallHouse x, String text) {
        for (int from = 0; from < text.length(); from += 20) {
            int[] five = new int[5];
            for (int i = 0; i < 20; i++) {
                int b = from + i < text.length() ? text.charAt(from + i) & 255 : 32;
                five[i / 4] = five[i / 4] << 8 | b;
            }
            x.feed(five[0], five[1], five[2], five[3], five[4]);
        }
        return text.length();
    }

    static int draw(WallHouse x, String text) {
        return x.drawing(put(x, text));
    }

    static int bar(WallHouse x, String text) {
        return x.bar(put(x, text));
    }

    static int right(WallHouse x, String text) {
        return x.right(put(x, text));
    }

    /** GOOD DAYS from one to another. */
    static void sunny(WallHouse x, int from, int to) {
        for (int day = from; day <= to; day++) {
            x.weather(day, 20, 0);
        }
    }

    static void passTo(WallHouse x, int day) {
        for (int turn = 0; turn < 40 && x.count(9) < day; turn++) {
            x.pass(Math.min(100, day - x.count(9)));
        }
    }

    static String times(String text, int n) {
        StringBuilder all = new StringBuilder();
        for (int i = 0; i < n; i++) {
            all.append(text);
        }
        return all.toString();
    }

    /** A town with a wall of this size, LEAVE for it and a painter. */
    static WallHouse town(int wide, int high, int side) {
        WallHouse x = new WallHouse();
        x.wall(wide, high, side, 0);
        x.leave(0, 0, 9, true);
        x.painter(0, 50);
        return x;
    }

    static WallHouse openTown(int walls, int painters) {
        WallHouse x = new WallHouse();
        for (int i = 0; i < walls; i++) {
            x.wall(1, 1, 0, 0);
            x.leave(i, 0, 9, true);
        }
        for (int i = 0; i < painters; i++) {
            x.painter(i % 6, 99);
        }
        return x;
    }
}
