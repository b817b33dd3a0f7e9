import com.sun.management.ThreadMXBean;
import java.lang.management.ManagementFactory;

/** What a run of 512 dear calls makes stays far below the one room that all calls share. */
public final class RoomTest {
    private static final int CALLS = 512;
    /** Bytes; the room has 7.3 million fields and elements, a byte each at the least. */
    private static final long MOST = 600_000;
    private static final Check C = new Check();

    private final int[][] text = new int[20][5];
    private final WallHouse x = new WallHouse();
    private int calls;

    public static void main(String[] args) {
        C.part("the room");
        ThreadMXBean threads = (ThreadMXBean) ManagementFactory.getThreadMXBean();
        long id = Thread.currentThread().getId();
        RoomTest warm = new RoomTest();
        warm.write();
        warm.run();
        int[][] words = warm.text;
        long before = threads.getThreadAllocatedBytes(id);
        RoomTest test = new RoomTest();
        System.arraycopy(words, 0, test.text, 0, words.length);
        test.run();
        long made = threads.getThreadAllocatedBytes(id) - before;
        C.yes("a run of " + test.calls + " calls made " + made + " bytes", made < MOST);
        C.due("calls", test.calls, CALLS);
        C.end();
    }

    /** A drawing of 400 bytes with as many parts as there may be. */
    private void write() {
        String parts = "disc 1 1 1 " + Check.times("1+", 117) + "1";
        String full = parts + Check.times(" ", 400 - parts.length());
        for (int i = 0; i < 400; i++) {
            int[] five = text[i / 20];
            five[i % 20 / 4] = five[i % 20 / 4] << 8 | full.charAt(i);
        }
    }

    private void run() {
        for (int i = 0; i < 16; i++) {
            x.wall(16, 12, 0, 0);
            x.leave(i, 0, 9, true);
            calls += 2;
        }
        for (int i = 0; i < 12; i++) {
            for (int[] five : text) {
                x.feed(five[0], five[1], five[2], five[3], five[4]);
                calls++;
            }
            C.due("drawing " + i, x.drawing(400), i);
            calls++;
        }
        for (int i = 0; i < 10; i++) {
            x.painter(i % 6, 99);
            x.wish(i, i, 9);
            calls += 2;
            for (int walls = 1; walls <= 6; walls++) {
                x.give((1 << walls) - 1);
                calls++;
            }
        }
        for (int i = 0; i < 9; i++) {
            x.themes(i, 1 << i);
            x.trail(1023);
            calls += 2;
        }
        for (; calls < CALLS; calls += 2) {
            x.sketch(calls % 12, calls % 16);
            x.give(63 << calls % 10);
        }
    }
}
