/** Promises 18 to 21: paint, make, turn, same. */
public final class MakeTest {
    private static final int MOST = Integer.MAX_VALUE;
    private static final int LEAST = Integer.MIN_VALUE;

    public static void main(String[] args) {
        paint();
        make();
        refusedMake();
        turns();
        refusedTurn();
        same();
        Check.end("MakeTest");
    }

    private static void paint() {
        RunPictures x = new RunPictures();
        Check.due("paint the first cell", x.paint(0, 0, 3), true);
        Check.due("paint the last cell", x.paint(9, 9, 1), true);
        Check.due("paint it blank", x.paint(0, 0, 0), true);
        Check.due("paint it so again", x.paint(0, 0, 0), true);
        int[] wrong = {-1, 10, MOST, LEAST};
        for (int i : wrong) {
            Check.due("paint x " + i, x.paint(i, 0, 1), false);
            Check.due("paint y " + i, x.paint(0, i, 1), false);
        }
        int[] wrongColours = {-1, 4, MOST, LEAST};
        for (int colour : wrongColours) {
            Check.due("paint colour " + colour, x.paint(0, 0, colour), false);
        }
        int p = x.make(10, 10, 1);
        Check.due("runs of one cell", x.told(p, 3), 2);
        Check.due("its row", x.clue(p, 9, 0, 1), 1);
        Check.due("its column", x.clue(p, 19, 0, 1), 1);
    }

    private static void make() {
        RunPictures x = new RunPictures();
        Check.due("make of a blank canvas", x.make(3, 2, 1), 0);
        Pictures.same("its lines", Pictures.lines(x, 0), "0/0/0/0/0");
        int p = Pictures.make(x, 3, "1120/0122/3303/1111");
        Check.due("the next number", p, 1);
        Pictures.same("lines", Pictures.lines(x, p), "2a 1b/1a 2b/2c 1c/4a/1a 1c 1a/2a 1c 1a/2b 1a/1b 1c 1a");
        Check.due("width", x.told(p, 0), 4);
        Check.due("height", x.told(p, 1), 4);
        Check.due("colours", x.told(p, 2), 3);
        Check.due("runs", x.told(p, 3), 18);
        Check.due("desk", x.set(p, 15), 15);
        int q = x.make(3, 2, 2);
        Pictures.same("a corner's lines", Pictures.lines(x, q), "2a 1b/1a 1b/1a/2a/2b");
        x.paint(0, 0, 0);
        Pictures.same("the puzzle stays", Pictures.written(x, q, 0), "2a 1b");
        int row = x.make(3, 1, 2);
        Check.due("a run comes to a made one", x.run(row, 0, 1, 1), 3);
        Check.due("a run too many comes to it", x.run(row, 0, 2, 1), -1);
        RunPictures y = new RunPictures();
        int full = Pictures.make(y, 1, "1111111111");
        Pictures.same("a run of ten", Pictures.written(y, full, 0), "10a");
    }

    private static void refusedMake() {
        RunPictures x = new RunPictures();
        x.paint(2, 1, 2);
        x.paint(9, 9, 3);
        Check.due("too many colours", x.make(3, 2, 1), -1);
        Check.due("enough colours", x.make(3, 2, 2), 0);
        Check.due("the cell is outside", x.make(2, 2, 1), 1);
        Check.due("the cell is outside", x.make(3, 1, 1), 2);
        Check.due("too many colours", x.make(10, 10, 2), -1);
        Check.due("enough colours", x.make(10, 10, 3), 3);
        int[] wrongSides = {0, 11, -1, MOST, LEAST};
        for (int side : wrongSides) {
            Check.due("make(" + side + ", 5, 3)", x.make(side, 5, 3), -1);
            Check.due("make(5, " + side + ", 3)", x.make(5, side, 3), -1);
        }
        int[] wrongColours = {0, 4, -1, MOST, LEAST};
        for (int colours : wrongColours) {
            Check.due("make(1, 1, " + colours + ")", x.make(1, 1, colours), -1);
        }
        Check.due("puzzles", x.count(0), 4);
    }

    /** The picture 122 over 030, turned each way by hand. */
    private static void turns() {
        String[] turned = {"122/030", "221/030", "030/122", "030/221", "10/23/20", "20/23/10", "01/32/02", "02/32/01"};
        RunPictures x = new RunPictures();
        int p = Pictures.make(x, 3, turned[0]);
        for (int how = 0; how < 8; how++) {
            RunPictures y = new RunPictures();
            int made = Pictures.make(y, 3, turned[how]);
            int q = x.turn(p, how);
            Check.due("number of turn " + how, q, how + 1);
            Pictures.same("lines of turn " + how, Pictures.lines(x, q), Pictures.lines(y, made));
            Check.due("width of turn " + how, x.told(q, 0), how < 4 ? 3 : 2);
            Check.due("height of turn " + how, x.told(q, 1), how < 4 ? 2 : 3);
            Check.due("colours of turn " + how, x.told(q, 2), 3);
            Check.due("desk of turn " + how, x.told(q, 4), 0);
            Check.due("same by turn " + how, x.same(p, q), how);
        }
        Pictures.same("a turned puzzle", Pictures.lines(x, 6), "1b/1b 1c/1a/2b 1a/1c");
        x.choose(p, 0, 0);
        Check.due("the desk isn't turned", x.told(x.turn(p, 0), 4), 0);
    }

    private static void refusedTurn() {
        RunPictures x = new RunPictures();
        x.puzzle(2, 2, 1);
        int[] wrong = {-1, 8, MOST, LEAST};
        for (int i : wrong) {
            Check.due("turn by " + i, x.turn(0, i), -1);
            Check.due("turn of puzzle " + i, x.turn(i, 0), -1);
            Check.due("same of puzzle " + i, x.same(i, 0), -1);
            Check.due("same of puzzle " + i, x.same(0, i), -1);
        }
        Check.due("puzzles", x.count(0), 1);
    }

    private static void same() {
        RunPictures x = new RunPictures();
        int p = Pictures.make(x, 2, "100/120");
        Check.due("same as itself", x.same(p, p), 0);
        int colours = Pictures.make(x, 3, "100/120");
        Check.due("more colours", x.same(p, colours), -1);
        int other = Pictures.make(x, 2, "100/210");
        Check.due("other clues", x.same(p, other), -1);
        int longer = Pictures.make(x, 2, "100/110");
        Check.due("other runs", x.same(p, longer), -1);
        int wide = Pictures.make(x, 2, "1000/1200");
        Check.due("another width", x.same(p, wide), -1);
        int ring = Pictures.make(x, 1, "111/101/111");
        Check.due("the least how", x.same(ring, ring), 0);
        int half = Pictures.make(x, 1, "11/00");
        int side = Pictures.make(x, 1, "10/10");
        int below = Pictures.make(x, 1, "00/11");
        Check.due("the least how of two", x.same(half, side), 4);
        Check.due("the least how of two", x.same(half, below), 2);
        Check.due("the least how of two", x.same(below, side), 6);
        Check.due("the least how of two", x.same(side, below), 5);
        Check.due("no puzzle came", x.count(0), 9);
        // These clues have two pictures, and are the same though they came from different ones.
        int one = Pictures.make(x, 1, "10/01");
        int two = Pictures.make(x, 1, "01/10");
        Check.due("the clues count", x.same(one, two), 0);
        x.choose(one, 0, 1);
        x.game(one);
        Check.due("desk and games don't", x.same(one, two), 0);
    }
}
