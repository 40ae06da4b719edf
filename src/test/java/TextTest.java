/** Promises 29 to 31: write, out, count. */
public final class TextTest {
    private static final int MOST = Integer.MAX_VALUE;
    private static final int LEAST = Integer.MIN_VALUE;

    public static void main(String[] args) {
        write();
        longest();
        refusedWrite();
        count();
        Check.end("TextTest");
    }

    private static void write() {
        RunPictures x = new RunPictures();
        Check.due("out ahead of any write", x.out(0), -1);
        int p = Pictures.given(x, 10, 4, 3, "10c", "1a 2b 3c", "0", "4b 4b");
        Check.due("signs", x.write(p, 0), 3);
        int[] signs = {'1', '0', 'c'};
        for (int i = 0; i < signs.length; i++) {
            Check.due("sign " + i, x.out(i), signs[i]);
        }
        int[] wrong = {-1, 3, 16, MOST, LEAST};
        for (int i : wrong) {
            Check.due("sign " + i, x.out(i), -1);
        }
        Pictures.same("three runs", Pictures.written(x, p, 1), "1a 2b 3c");
        Pictures.same("no runs", Pictures.written(x, p, 2), "0");
        Pictures.same("two runs of a colour", Pictures.written(x, p, 3), "4b 4b");
        Pictures.same("a column", Pictures.written(x, p, 13), "0");
        x.run(p, 13, 2, 4);
        Check.due("out stays till the next write", x.out(0), '0');
        Pictures.same("a column with a run", Pictures.written(x, p, 13), "4b");
    }

    private static void longest() {
        RunPictures x = new RunPictures();
        int p = Pictures.make(x, 3, "1231231231");
        Check.due("signs of ten runs", x.write(p, 0), 29);
        Check.due("the last sign", x.out(28), 'a');
        Check.due("behind it", x.out(29), -1);
        Pictures.same("ten runs", Pictures.written(x, p, 0), "1a 1b 1c 1a 1b 1c 1a 1b 1c 1a");
        Pictures.same("a short one after it", Pictures.written(x, p, 10), "1a");
    }

    private static void refusedWrite() {
        RunPictures x = new RunPictures();
        int p = Pictures.given(x, 3, 2, 1, "2a");
        x.write(p, 0);
        int[] wrongLines = {-1, 5, MOST, LEAST};
        for (int line : wrongLines) {
            Check.due("write of line " + line, x.write(p, line), -1);
        }
        int[] wrongPuzzles = {-1, 1, MOST, LEAST};
        for (int number : wrongPuzzles) {
            Check.due("write of puzzle " + number, x.write(number, 0), -1);
        }
        Check.due("out stays", x.out(0), '2');
        Check.due("out stays", x.out(1), 'a');
        Check.due("out stays", x.out(2), -1);
    }

    private static void count() {
        RunPictures x = new RunPictures();
        x.puzzle(1, 1, 1);
        x.make(1, 1, 1);
        x.turn(0, 7);
        x.game(2);
        x.game(2);
        Check.due("puzzles", x.count(0), 3);
        Check.due("games", x.count(1), 2);
        int[] wrong = {-1, 2, MOST, LEAST};
        for (int what : wrong) {
            Check.due("count " + what, x.count(what), -1);
        }
    }
}
