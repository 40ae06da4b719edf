import java.lang.management.ManagementFactory;
import java.util.Random;

/** The dearest run of calls must stay far within the room: 600,000 objects, 7.3 million fields and elements. */
public final class RoomTest {
    // An object takes 16 bytes at least and a field or element mostly 4, so this is well below both bounds.
    private static final long MOST_BYTES = 3_000_000L;

    public static void main(String[] args) {
        Check.holds("a run of all kinds of calls stays within the room", bytesOf(0) < MOST_BYTES);
        Check.holds("512 searches and grades stay within the room", bytesOf(1) < MOST_BYTES);
        Check.holds("512 new objects stay within the room", bytesOf(2) < MOST_BYTES);
        Check.end("RoomTest");
    }

    private static long bytesOf(int kind) {
        long before = allocated();
        if (kind == 0) {
            allKinds();
        } else if (kind == 1) {
            searchesAndGrades();
        } else {
            newObjects();
        }
        long bytes = allocated() - before;
        System.out.println("RoomTest: kind " + kind + " took " + bytes + " bytes");
        return bytes;
    }

    private static long allocated() {
        return ((com.sun.management.ThreadMXBean) ManagementFactory.getThreadMXBean())
            .getThreadAllocatedBytes(Thread.currentThread().getId());
    }

    private static void paintAll(RunPictures x, Random random, int colours, int blanks) {
        for (int cell = 0; cell < 100; cell++) {
            x.paint(cell % 10, cell / 10, random.nextInt(100) < blanks ? 0 : 1 + random.nextInt(colours));
        }
    }

    private static void allKinds() {
        RunPictures x = new RunPictures();
        paintAll(x, new Random(1), 3, 40);
        x.make(10, 10, 3);
        for (int i = 1; i < 30; i++) {
            x.turn(0, i % 8);
        }
        for (int g = 0; g < 20; g++) {
            x.game(g);
        }
        for (int i = 0; i < 60; i++) {
            x.grade(i % 30);
            x.search(i % 30, 200, 5);
            x.settle(i % 30);
            x.mark(i % 20, i, 1);
            x.hint(i % 20);
            x.write(i % 30, i % 20);
        }
    }

    private static void searchesAndGrades() {
        RunPictures x = new RunPictures();
        paintAll(x, new Random(2), 1, 60);
        x.make(10, 10, 1);
        for (int i = 0; i < 205; i++) {
            x.search(0, 200, 5);
            x.grade(0);
        }
    }

    private static void newObjects() {
        for (int i = 0; i < 512; i++) {
            Check.due("puzzles of a new object", new RunPictures().count(0), 0);
        }
    }
}
