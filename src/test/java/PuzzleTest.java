/** Promises 1 to 5: a new object, puzzle, run, told, clue. */
public final class PuzzleTest {
    private static final int MOST = Integer.MAX_VALUE;
    private static final int LEAST = Integer.MIN_VALUE;

    public static void main(String[] args) {
        newObject();
        puzzle();
        thirtyPuzzles();
        run();
        refusedRuns();
        runClearsDesk();
        runAfterGame();
        told();
        clue();
        Check.end("PuzzleTest");
    }

    private static void newObject() {
        RunPictures x = new RunPictures();
        Check.due("NONE", RunPictures.NONE, -1);
        Check.due("puzzles of a new object", x.count(0), 0);
        Check.due("games of a new object", x.count(1), 0);
        Check.due("told of a new object", x.told(0, 0), -1);
        Check.due("state of a new object", x.state(0, 0), -1);
        Check.due("pictures of a new object", x.found(-1), 0);
        Check.due("tries of a new object", x.found(-2), 0);
        Check.due("probes of a new object", x.probes(), 0);
        Check.due("out of a new object", x.out(0), -1);
        Check.due("picture of a new object", x.picture(0, 0), -1);
        x.puzzle(1, 1, 1);
        Check.due("puzzles of another object", new RunPictures().count(0), 0);
    }

    private static void puzzle() {
        RunPictures x = new RunPictures();
        Check.due("puzzle(1, 1, 1)", x.puzzle(1, 1, 1), 0);
        Check.due("puzzle(10, 10, 3)", x.puzzle(10, 10, 3), 1);
        Check.due("puzzle(10, 1, 2)", x.puzzle(10, 1, 2), 2);
        int[] wrongSides = {0, 11, -1, MOST, LEAST};
        for (int side : wrongSides) {
            Check.due("puzzle(" + side + ", 5, 1)", x.puzzle(side, 5, 1), -1);
            Check.due("puzzle(5, " + side + ", 1)", x.puzzle(5, side, 1), -1);
        }
        int[] wrongColours = {0, 4, -1, MOST, LEAST};
        for (int colours : wrongColours) {
            Check.due("puzzle(5, 5, " + colours + ")", x.puzzle(5, 5, colours), -1);
        }
        Check.due("puzzles", x.count(0), 3);
        Check.due("runs of a new puzzle", x.told(1, 3), 0);
        Check.due("set of a new puzzle's cell", x.set(1, 99), 15);
    }

    private static void thirtyPuzzles() {
        RunPictures x = new RunPictures();
        for (int i = 0; i < 30; i++) {
            int got = i % 3 == 0 ? x.puzzle(2, 2, 1) : i % 3 == 1 ? x.make(2, 2, 1) : x.turn(0, 4);
            Check.due("puzzle " + i, got, i);
        }
        Check.due("a 31st puzzle", x.puzzle(2, 2, 1), -1);
        Check.due("a 31st puzzle by make", x.make(2, 2, 1), -1);
        Check.due("a 31st puzzle by turn", x.turn(0, 1), -1);
        Check.due("puzzles", x.count(0), 30);
        Check.due("run of the 30th", x.run(29, 0, 1, 2), 1);
        Check.due("run of the 31st", x.run(30, 0, 1, 2), -1);
        Check.due("told of the 31st", x.told(30, 0), -1);
    }

    private static void run() {
        RunPictures x = new RunPictures();
        int p = x.puzzle(7, 3, 3);
        Check.due("first run", x.run(p, 0, 1, 2), 1);
        Check.due("another colour needs no gap", x.run(p, 0, 2, 2), 2);
        Check.due("the same colour needs one", x.run(p, 0, 2, 3), -1);
        Check.due("the same colour needs one", x.run(p, 0, 2, 2), 3);
        Check.due("a full line takes no more", x.run(p, 0, 3, 1), -1);
        Check.due("a run as long as the row", x.run(p, 1, 3, 7), 1);
        Check.due("a run longer than the row", x.run(p, 2, 3, 8), -1);
        Check.due("a run as long as the column", x.run(p, 3, 1, 3), 1);
        Check.due("a run longer than the column", x.run(p, 9, 1, 4), -1);
        Check.due("the last column", x.run(p, 9, 2, 1), 1);
        int q = x.puzzle(10, 10, 2);
        for (int i = 0; i < 10; i++) {
            Check.due("ten runs of one", x.run(q, 19, 1 + i % 2, 1), i + 1);
        }
        Check.due("an 11th run of one", x.run(q, 19, 1, 1), -1);
        Check.due("runs of all lines", x.told(q, 3), 10);
        for (int i = 0; i < 5; i++) {
            Check.due("five runs of one colour", x.run(q, 0, 1, 1), i + 1);
        }
        Check.due("a 6th run of one colour", x.run(q, 0, 1, 1), -1);
        Check.due("but one of another", x.run(q, 0, 2, 1), 6);
    }

    private static void refusedRuns() {
        RunPictures x = new RunPictures();
        int p = x.puzzle(4, 3, 2);
        int[] wrong = {-1, 1, MOST, LEAST};
        for (int number : wrong) {
            Check.due("run of puzzle " + number, x.run(number, 0, 1, 1), -1);
        }
        int[] wrongLines = {-1, 7, MOST, LEAST};
        for (int line : wrongLines) {
            Check.due("run of line " + line, x.run(p, line, 1, 1), -1);
        }
        int[] wrongColours = {0, 3, -1, MOST, LEAST};
        for (int colour : wrongColours) {
            Check.due("run of colour " + colour, x.run(p, 0, colour, 1), -1);
        }
        int[] wrongLengths = {0, -1, 5, MOST, LEAST};
        for (int length : wrongLengths) {
            Check.due("run of length " + length, x.run(p, 0, 1, length), -1);
        }
        Check.due("no run came", x.told(p, 3), 0);
    }

    private static void runClearsDesk() {
        RunPictures x = new RunPictures();
        int p = x.puzzle(2, 2, 1);
        x.choose(p, 3, 1);
        x.run(p, 0, 1, 3);
        Check.due("a refused run leaves the desk", x.set(p, 3), 2);
        x.run(p, 0, 1, 1);
        Check.due("a run makes the desk full", x.set(p, 3), 3);
        Check.due("a run makes the desk full", x.told(p, 4), 0);
    }

    private static void runAfterGame() {
        RunPictures x = new RunPictures();
        int p = x.puzzle(3, 3, 1);
        int q = x.puzzle(3, 3, 1);
        Check.due("run ahead of the game", x.run(p, 0, 1, 1), 1);
        x.game(p);
        Check.due("run after the game", x.run(p, 0, 1, 1), -1);
        Check.due("runs of the line", x.clue(p, 0, 1, 0), -1);
        Check.due("run of another puzzle", x.run(q, 0, 1, 1), 1);
        int turned = x.turn(p, 0);
        Check.due("run of the turned puzzle", x.run(turned, 0, 1, 1), 2);
    }

    private static void told() {
        RunPictures x = new RunPictures();
        x.puzzle(1, 1, 1);
        int p = Pictures.given(x, 4, 3, 2, "1a 2b", "0", "0", "1a");
        Check.due("width", x.told(p, 0), 4);
        Check.due("height", x.told(p, 1), 3);
        Check.due("colours", x.told(p, 2), 2);
        Check.due("runs", x.told(p, 3), 3);
        Check.due("cells with one", x.told(p, 4), 0);
        x.choose(p, 5, 2);
        x.bar(p, 6, 0);
        Check.due("cells with one", x.told(p, 4), 1);
        x.bar(p, 6, 2);
        Check.due("cells with one", x.told(p, 4), 2);
        int[] wrong = {-1, 5, MOST, LEAST};
        for (int what : wrong) {
            Check.due("told " + what, x.told(p, what), -1);
        }
        int[] wrongPuzzles = {-1, 2, MOST, LEAST};
        for (int number : wrongPuzzles) {
            Check.due("told of puzzle " + number, x.told(number, 0), -1);
        }
    }

    private static void clue() {
        RunPictures x = new RunPictures();
        int p = Pictures.given(x, 6, 3, 3, "1a 2b", "0", "3c", "1a");
        Check.due("colour", x.clue(p, 0, 0, 0), 1);
        Check.due("length", x.clue(p, 0, 0, 1), 1);
        Check.due("colour", x.clue(p, 0, 1, 0), 2);
        Check.due("length", x.clue(p, 0, 1, 1), 2);
        Check.due("colour", x.clue(p, 2, 0, 0), 3);
        Check.due("length", x.clue(p, 2, 0, 1), 3);
        Check.due("column's colour", x.clue(p, 3, 0, 0), 1);
        Check.due("what -1", x.clue(p, 0, 0, -1), -1);
        Check.due("what 2", x.clue(p, 0, 0, 2), -1);
        int[] wrong = {-1, 2, MOST, LEAST};
        for (int i : wrong) {
            Check.due("run " + i, x.clue(p, 0, i, 0), -1);
        }
        Check.due("run of a line without", x.clue(p, 1, 0, 0), -1);
        int[] wrongLines = {-1, 9, MOST, LEAST};
        for (int line : wrongLines) {
            Check.due("line " + line, x.clue(p, line, 0, 0), -1);
        }
        Check.due("puzzle 1", x.clue(1, 0, 0, 0), -1);
        Check.due("puzzle -1", x.clue(-1, 0, 0, 0), -1);
    }
}
