import java.lang.management.ManagementFactory;

/** The dearest calls of a hall's whole life take little room: all calls of one run live in one. */
public final class RoomTest {
    private static final com.sun.management.ThreadMXBean THREAD =
        (com.sun.management.ThreadMXBean) ManagementFactory.getThreadMXBean();
    // Some 7.3 million fields and elements, of four bytes at least.
    private static final long MOST_BYTES = 4L * 7_300_000;
    private static int wrong = 0;
    private static int looked = 0;

    private static void run(String name, java.util.function.IntConsumer call) {
        long before = THREAD.getCurrentThreadAllocatedBytes();
        for (int i = 0; i < 512; i++) {
            call.accept(i);
        }
        long taken = THREAD.getCurrentThreadAllocatedBytes() - before;
        looked++;
        if (taken > MOST_BYTES) {
            wrong++;
            System.out.println(name + " took " + taken + " bytes");
        }
    }

    public static void main(String[] args) {
        PreCommitHall[] hall = {null};
        run("a hall alone", i -> hall[0] = i == 0 ? new PreCommitHall() : hall[0]);
        run("mixes of other weights each time", i -> {
            if (i % 2 == 0) {
                hall[0].weight(i / 2 % 3, 1 + i / 6 % 3);
            } else {
                hall[0].mixes(1, 0);
            }
        });
        hall[0] = new PreCommitHall();
        run("mixes and steps", i -> {
            hall[0].steps(i % 6 * 111, i % 8, i % 2);
            hall[0].way(1, i % 6);
        });
        hall[0] = new PreCommitHall();
        hall[0].begin(5, 1);
        run("what is told on paper", i -> {
            hall[0].years(i, 40, 0);
            hall[0].split();
            hall[0].stands(i % 5);
            hall[0].ends(0, i % 9, 2);
        });
        run("acts, images", i -> {
            hall[0].image(i % 2);
            hall[0].begin(5, i % 2);
            hall[0].ask(i % 20);
            hall[0].undo(1);
            hall[0].restore(i % 2);
        });
        run("texts", i -> {
            for (int word = 0; word < 10; word++) {
                hall[0].feed(0x6865616c, 0x3b686561, 0x6c3b6865, 0x616c3b68, 0x65616c3b);
            }
            hall[0].script(i % 201);
        });
        run("signs", i -> {
            hall[0].begin(5, 0);
            hall[0].ask(-1);
            for (int line = 0; line < 5; line++) {
                hall[0].sign(line, i % 12 - 1);
            }
        });
        System.out.println(looked + " runs, " + wrong + " of them take too much room");
        if (wrong != 0) {
            System.exit(1);
        }
    }
}
