import com.sun.management.ThreadMXBean;
import java.lang.management.ManagementFactory;

/** The room of a run, and that no call throws, whatever its arguments, also after the 512th call. */
final class RoomTest {
    private static final int[] NUMBERS = {Integer.MIN_VALUE, -9999, -100, -99, -1, 0, 1, 2, 3, 4, 5, 6, 7, 9, 10, 24,
        59, 60, 61, 99, 100, 444444, 444445, Integer.MAX_VALUE};

    public static void main(String[] args) {
        room();
        noneThrows();
        Checks.end();
    }

    private static long taken() {
        ThreadMXBean threads = (ThreadMXBean) ManagementFactory.getThreadMXBean();
        return threads.getThreadAllocatedBytes(Thread.currentThread().getId());
    }

    /** The room of a run is some 29 million bytes of fields; a run of changes may take a hundredth of it. */
    private static void room() {
        run();
        long before = taken();
        run();
        long bytes = taken() - before;
        Checks.holds("a run took " + bytes + " bytes", bytes < 290_000);
    }

    private static void run() {
        WordGroups x = new WordGroups();
        for (int call = 0; call < 512; call += 8) {
            x.spell(1 + call / 8 % 4);
            x.insert(1);
            x.write(2);
            x.insert(2);
            x.weigh(3);
            x.rebuild();
            x.keep(call / 8 % 2);
            x.back(0);
        }
        for (int call = 0; call < 512; call += 8) {
            x.type();
            x.group(0, 1, 3);
            x.follow(0, 2, 9);
            x.total(5);
            x.total(2);
            x.find(70, 1);
            x.undo();
            x.mean();
        }
    }

    private static void noneThrows() {
        WordGroups x = new WordGroups();
        int round = 0;
        for (int a : NUMBERS) {
            for (int b : NUMBERS) {
                round++;
                x.spell(111 + round % 4 + 10 * (round / 4 % 4) + 100 * (round / 16 % 4));
                change(x, a, round);
                ask(x, a, b);
            }
        }
        Checks.holds("no call threw", true);
    }

    private static void change(WordGroups x, int a, int round) {
        x.write(a);
        x.insert(a);
        x.insert(round % 199 - 99);
        x.type();
        if (round % 3 == 0) {
            x.weigh(a);
            x.weigh(4);
        }
        if (round % 5 == 0) {
            x.remove();
        }
        x.spell(a);
        x.keep(a);
        if (round % 7 == 0) {
            x.back(a);
        }
        if (round % 50 == 0) {
            x.rebuild();
            x.undo();
            x.wipe();
            x.clear();
        }
    }

    private static void ask(WordGroups x, int a, int b) {
        x.told(a);
        x.word(a, b);
        x.at(a, b);
        x.total(a);
        x.find(a, b);
        x.mean();
        for (int c : NUMBERS) {
            x.group(a, b, c);
            x.follow(a, b, c);
            x.follow(c & 1, a, b);
            x.item(a, b, c, 0);
            x.item(c & 1, a, b, 1);
            x.item(0, a, b, c);
        }
    }
}
