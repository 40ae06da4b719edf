/** Promises 6 to 12: fresh, choose, bar, set, step, ways, settle. */
public final class DeskTest {
    private static final int MOST = Integer.MAX_VALUE;
    private static final int LEAST = Integer.MIN_VALUE;

    public static void main(String[] args) {
        fresh();
        choose();
        bar();
        set();
        step();
        stepOfColours();
        brokenStep();
        ways();
        settle();
        brokenSettle();
        noSuchPuzzle();
        Check.end("DeskTest");
    }

    private static void fresh() {
        RunPictures x = new RunPictures();
        int p = x.puzzle(2, 1, 2);
        x.choose(p, 0, 2);
        x.bar(p, 1, 0);
        Pictures.same("desk", Pictures.desk(x, p), "46");
        Check.due("fresh", x.fresh(p), true);
        Pictures.same("desk", Pictures.desk(x, p), "77");
        Check.due("fresh of a full one", x.fresh(p), true);
    }

    private static void choose() {
        RunPictures x = new RunPictures();
        int p = x.puzzle(2, 2, 2);
        int q = x.puzzle(2, 2, 2);
        Check.due("choose", x.choose(p, 3, 0), true);
        Check.due("choose again", x.choose(p, 3, 0), true);
        Check.due("choose another", x.choose(p, 3, 1), false);
        Check.due("bar", x.bar(p, 0, 1), true);
        Check.due("choose what is barred", x.choose(p, 0, 1), false);
        Pictures.same("desk", Pictures.desk(x, p), "5771");
        Pictures.same("another puzzle's desk", Pictures.desk(x, q), "7777");
        int[] wrongColours = {-1, 3, 32, 33, MOST, LEAST};
        for (int colour : wrongColours) {
            Check.due("choose colour " + colour, x.choose(p, 1, colour), false);
        }
        int[] wrongCells = {-1, 4, MOST, LEAST};
        for (int cell : wrongCells) {
            Check.due("choose cell " + cell, x.choose(p, cell, 0), false);
        }
        Pictures.same("desk", Pictures.desk(x, p), "5771");
    }

    private static void bar() {
        RunPictures x = new RunPictures();
        int p = x.puzzle(2, 2, 3);
        Check.due("bar 2", x.bar(p, 1, 2), true);
        Check.due("bar 2 again", x.bar(p, 1, 2), false);
        Check.due("bar 0", x.bar(p, 1, 0), true);
        Check.due("bar 3", x.bar(p, 1, 3), true);
        Check.due("bar the only one", x.bar(p, 1, 1), false);
        Pictures.same("desk", Pictures.desk(x, p), "f2ff");
        int[] wrongColours = {-1, 4, 32, 33, MOST, LEAST};
        for (int colour : wrongColours) {
            Check.due("bar colour " + colour, x.bar(p, 0, colour), false);
        }
        int[] wrongCells = {-1, 4, MOST, LEAST};
        for (int cell : wrongCells) {
            Check.due("bar cell " + cell, x.bar(p, cell, 0), false);
        }
        Pictures.same("desk", Pictures.desk(x, p), "f2ff");
    }

    private static void set() {
        RunPictures x = new RunPictures();
        for (int colours = 1; colours <= 3; colours++) {
            int p = x.puzzle(3, 2, colours);
            Check.due("full set of " + colours, x.set(p, 5), (2 << colours) - 1);
            Check.due("cell 6", x.set(p, 6), 0);
            Check.due("cell -1", x.set(p, -1), 0);
            Check.due("cell MAX", x.set(p, MOST), 0);
        }
        x.choose(2, 0, 3);
        Check.due("3 alone", x.set(2, 0), 8);
    }

    private static void step() {
        RunPictures x = new RunPictures();
        int p = Pictures.given(x, 5, 2, 1, "3a", "1a 1a", "1a");
        Check.due("step of 3 in 5", x.step(p, 0), 1);
        Pictures.same("desk", Pictures.desk(x, p), "3323333333");
        Check.due("step again", x.step(p, 0), 0);
        x.choose(p, 0, 1);
        Check.due("step with the first cell", x.step(p, 0), 3);
        Pictures.same("desk", Pictures.desk(x, p), "2221133333");
        Check.due("step of 1 1 in 5", x.step(p, 1), 0);
        x.choose(p, 7, 1);
        Check.due("step with the middle cell", x.step(p, 1), 2);
        Pictures.same("desk", Pictures.desk(x, p), "2221131213");
        Check.due("step of a column", x.step(p, 2), 1);
        Pictures.same("desk", Pictures.desk(x, p), "2221111213");
        int[] wrong = {-1, 7, MOST, LEAST};
        for (int line : wrong) {
            Check.due("step of line " + line, x.step(p, line), -1);
        }
    }

    private static void stepOfColours() {
        RunPictures x = new RunPictures();
        int p = Pictures.given(x, 5, 1, 3, "3a 1b");
        Check.due("ways of 3a 1b in 5", x.ways(p, 0), 3);
        Check.due("step of 3a 1b in 5", x.step(p, 0), 11);
        Pictures.same("desk", Pictures.desk(x, p), "32275");
        x.bar(p, 3, 0);
        Check.due("ways without blank", x.ways(p, 0), 2);
        Check.due("step without blank", x.step(p, 0), 0);
        x.bar(p, 3, 2);
        Check.due("step without b", x.step(p, 0), 2);
        Pictures.same("desk", Pictures.desk(x, p), "12224");
        // Ends from the left and from the right don't tell this: 2 fits at 0 and at 3 alone, so cell 2 is blank.
        int q = Pictures.given(x, 5, 1, 1, "2a");
        x.choose(q, 2, 0);
        Check.due("step around a blank", x.step(q, 0), 0);
        int r = Pictures.given(x, 7, 1, 1, "1a 2a");
        x.choose(r, 3, 0);
        x.bar(r, 1, 1);
        Check.due("ways of 1 2 in 7", x.ways(r, 0), 4);
        Check.due("step of 1 2 in 7", x.step(r, 0), 1);
        Pictures.same("desk", Pictures.desk(x, r), "3131323");
    }

    private static void brokenStep() {
        RunPictures x = new RunPictures();
        int p = Pictures.given(x, 4, 1, 2, "2a 1b");
        x.choose(p, 1, 0);
        Check.due("ways of a broken line", x.ways(p, 0), 0);
        Check.due("step of a broken line", x.step(p, 0), -2);
        Pictures.same("desk", Pictures.desk(x, p), "7177");
        x.fresh(p);
        x.choose(p, 0, 2);
        Check.due("step of a line that begins wrong", x.step(p, 0), -2);
        int q = x.puzzle(3, 1, 1);
        x.choose(q, 2, 1);
        Check.due("step of a line without runs", x.step(q, 0), -2);
        Pictures.same("desk", Pictures.desk(x, q), "332");
    }

    private static void ways() {
        RunPictures x = new RunPictures();
        int p = Pictures.given(x, 10, 10, 2, "1a 1b 1a 1b 1a", "10b", "0", "1a 1a 1a", "3a 1b 2b");
        Check.due("five runs of one, colours changing", x.ways(p, 0), 252);
        Check.due("a full line", x.ways(p, 1), 1);
        Check.due("a line without runs", x.ways(p, 2), 1);
        Check.due("three runs of one colour", x.ways(p, 3), 56);
        Check.due("six cells and a gap", x.ways(p, 4), 20);
        x.choose(p, 30, 1);
        Check.due("three runs, the first in its place", x.ways(p, 3), 21);
        x.bar(p, 32, 1);
        Check.due("without one cell", x.ways(p, 3), 15);
        x.choose(p, 20, 1);
        Check.due("no run, but a cell", x.ways(p, 2), 0);
        Check.due("the last column", x.ways(p, 19), 1);
        int[] wrong = {-1, 20, MOST, LEAST};
        for (int line : wrong) {
            Check.due("ways of line " + line, x.ways(p, line), -1);
        }
    }

    private static void settle() {
        RunPictures x = new RunPictures();
        int p = Pictures.make(x, 1, "01010/11111/11111/01110/00100");
        Check.due("rounds of a heart", x.settle(p), 2);
        Pictures.same("desk", Pictures.desk(x, p), "1212122222222221222111211");
        Check.due("rounds of a settled desk", x.settle(p), 0);
        int q = Pictures.given(x, 2, 2, 1, "1a", "1a", "1a", "1a");
        Check.due("rounds of two ways", x.settle(q), 0);
        x.choose(q, 0, 1);
        Check.due("rounds of one way", x.settle(q), 1);
        Pictures.same("desk", Pictures.desk(x, q), "2112");
    }

    private static void brokenSettle() {
        RunPictures x = new RunPictures();
        int p = Pictures.given(x, 3, 2, 1, "3a", "0", "1a", "1a");
        Check.due("rows say more than columns", x.settle(p), -2);
        Pictures.same("desk", Pictures.desk(x, p), "333333");
        x.bar(p, 0, 0);
        Check.due("settle", x.settle(p), -2);
        Pictures.same("desk", Pictures.desk(x, p), "233333");
        x.run(p, 4, 1, 1);
        Check.due("settle when the last column has its run", x.settle(p), 1);
        Pictures.same("desk", Pictures.desk(x, p), "222111");
    }

    private static void noSuchPuzzle() {
        RunPictures x = new RunPictures();
        x.puzzle(2, 2, 1);
        int[] wrong = {-1, 1, MOST, LEAST};
        for (int p : wrong) {
            Check.due("fresh of " + p, x.fresh(p), false);
            Check.due("choose of " + p, x.choose(p, 0, 0), false);
            Check.due("bar of " + p, x.bar(p, 0, 0), false);
            Check.due("set of " + p, x.set(p, 0), 0);
            Check.due("step of " + p, x.step(p, 0), -1);
            Check.due("ways of " + p, x.ways(p, 0), -1);
            Check.due("settle of " + p, x.settle(p), -1);
        }
    }
}
