/** Promises 22 to 28: game, mark, marked, undo, redo, hint, state. */
public final class GameTest {
    private static final int MOST = Integer.MAX_VALUE;
    private static final int LEAST = Integer.MIN_VALUE;

    public static void main(String[] args) {
        game();
        mark();
        refusedMarks();
        undoAndRedo();
        twoHundredChanges();
        hint();
        hintIsOfOneLine();
        brokenHint();
        state();
        noSuchGame();
        Check.end("GameTest");
    }

    private static void game() {
        RunPictures x = new RunPictures();
        Check.due("game without puzzles", x.game(0), -1);
        x.puzzle(2, 2, 1);
        x.puzzle(3, 1, 2);
        int[] wrong = {-1, 2, MOST, LEAST};
        for (int p : wrong) {
            Check.due("game of puzzle " + p, x.game(p), -1);
        }
        for (int g = 0; g < 20; g++) {
            Check.due("game " + g, x.game(g % 2), g);
        }
        Check.due("a 21st game", x.game(0), -1);
        Check.due("games", x.count(1), 20);
        Check.due("state of a 21st game", x.state(20, 0), -1);
        Check.due("puzzle of game 18", x.state(18, 0), 0);
        Check.due("puzzle of game 19", x.state(19, 0), 1);
        x.mark(19, 2, 2);
        Check.due("games are apart", x.marked(17, 2), -1);
        Check.due("the mark", x.marked(19, 2), 2);
    }

    private static void mark() {
        RunPictures x = new RunPictures();
        int g = x.game(x.puzzle(2, 2, 3));
        Check.due("no mark", x.marked(g, 0), -1);
        Check.due("mark blank", x.mark(g, 0, 0), true);
        Check.due("its mark", x.marked(g, 0), 0);
        Check.due("mark it so again", x.mark(g, 0, 0), false);
        Check.due("mark it otherwise", x.mark(g, 0, 3), true);
        Check.due("its mark", x.marked(g, 0), 3);
        Check.due("take its mark", x.mark(g, 0, -1), true);
        Check.due("its mark", x.marked(g, 0), -1);
        Check.due("take it again", x.mark(g, 0, -1), false);
        Check.due("a wrong mark is fine", x.mark(g, 3, 2), true);
        Check.due("changes", x.state(g, 4), 4);
        Check.due("the desk stays", x.set(0, 3), 15);
    }

    private static void refusedMarks() {
        RunPictures x = new RunPictures();
        int g = x.game(x.puzzle(2, 2, 2));
        x.mark(g, 1, 1);
        x.undo(g);
        int[] wrongCells = {-1, 4, MOST, LEAST};
        for (int cell : wrongCells) {
            Check.due("mark cell " + cell, x.mark(g, cell, 0), false);
            Check.due("marked of cell " + cell, x.marked(g, cell), -1);
        }
        int[] wrongColours = {-2, 3, MOST, LEAST};
        for (int colour : wrongColours) {
            Check.due("mark colour " + colour, x.mark(g, 0, colour), false);
        }
        Check.due("mark what is so", x.mark(g, 1, -1), false);
        Check.due("changes", x.state(g, 4), 0);
        Check.due("a refused mark leaves what can be done again", x.state(g, 5), 1);
        Check.due("redo", x.redo(g), 1);
        Check.due("marked", x.marked(g, 1), 1);
    }

    private static void undoAndRedo() {
        RunPictures x = new RunPictures();
        int g = x.game(x.puzzle(3, 1, 2));
        int other = x.game(0);
        Check.due("undo without changes", x.undo(g), -1);
        Check.due("redo without changes", x.redo(g), -1);
        x.mark(g, 0, 1);
        x.mark(g, 1, 2);
        x.mark(g, 0, 2);
        x.mark(g, 0, -1);
        Check.due("undo", x.undo(g), 0);
        Check.due("marked", x.marked(g, 0), 2);
        Check.due("undo", x.undo(g), 0);
        Check.due("marked", x.marked(g, 0), 1);
        Check.due("undo", x.undo(g), 1);
        Check.due("marked", x.marked(g, 1), -1);
        Check.due("can be taken back", x.state(g, 4), 1);
        Check.due("can be done again", x.state(g, 5), 3);
        Check.due("redo", x.redo(g), 1);
        Check.due("marked", x.marked(g, 1), 2);
        Check.due("redo", x.redo(g), 0);
        Check.due("marked", x.marked(g, 0), 2);
        Check.due("redo", x.redo(g), 0);
        Check.due("marked", x.marked(g, 0), -1);
        Check.due("redo with none left", x.redo(g), -1);
        x.undo(g);
        Check.due("a new mark", x.mark(g, 2, 0), true);
        Check.due("can be done again", x.state(g, 5), 0);
        Check.due("redo after a new mark", x.redo(g), -1);
        Check.due("undo of the new mark", x.undo(g), 2);
        Check.due("undo of the one ahead of it", x.undo(g), 0);
        Check.due("marked", x.marked(g, 0), 1);
        Check.due("the other game", x.undo(other), -1);
    }

    private static void twoHundredChanges() {
        RunPictures x = new RunPictures();
        int g = x.game(x.puzzle(1, 1, 1));
        for (int i = 0; i < 200; i++) {
            Check.due("change " + i, x.mark(g, 0, i % 2), true);
        }
        Check.due("a 201st change", x.mark(g, 0, -1), false);
        Check.due("changes", x.state(g, 4), 200);
        Check.due("marked", x.marked(g, 0), 1);
        Check.due("undo", x.undo(g), 0);
        Check.due("one that can be done again", x.state(g, 5), 1);
        Check.due("redo", x.redo(g), 0);
        x.undo(g);
        Check.due("a change in its place", x.mark(g, 0, -1), true);
        Check.due("a change too many", x.mark(g, 0, 0), false);
        Check.due("changes", x.state(g, 4), 200);
    }

    private static void hint() {
        RunPictures x = new RunPictures();
        int p = Pictures.make(x, 2, "0010/1122");
        int g = x.game(p);
        // Row 0 leaves nothing alone; row 1 is full from its first cell on.
        Check.due("the first line that leaves one", x.hint(g), 4 * 4 + 1);
        x.mark(g, 4, 1);
        Check.due("the next cell", x.hint(g), 4 * 5 + 1);
        x.mark(g, 5, 1);
        x.mark(g, 6, 2);
        x.mark(g, 7, 2);
        Check.due("a column's cell", x.hint(g), 0);
        x.mark(g, 0, 0);
        Check.due("the next column's", x.hint(g), 4);
        x.mark(g, 2, 1);
        Check.due("a row's again", x.hint(g), 4);
        x.mark(g, 1, 0);
        x.mark(g, 3, 0);
        Check.due("none is left", x.hint(g), -1);
        Check.due("hints", x.state(g, 6), 5);
        Check.due("a picture", x.state(g, 3), 1);
        Check.due("hints give no marks", x.state(g, 4), 8);
    }

    /** What row 0 takes from its cells isn't looked at in the columns: with it the first column would be broken. */
    private static void hintIsOfOneLine() {
        RunPictures x = new RunPictures();
        int p = Pictures.given(x, 2, 3, 2, "1a", "1b", "1b", "1b 1b", "1a");
        int g = x.game(p);
        Check.due("a column by itself", x.hint(g), 2);
        int q = Pictures.given(x, 2, 2, 2, "1a", "1b", "1b", "1a");
        int h = x.game(q);
        Check.due("no line leaves one by itself", x.hint(h), -1);
        Check.due("no hint was given", x.state(h, 6), 0);
    }

    private static void brokenHint() {
        RunPictures x = new RunPictures();
        int p = Pictures.make(x, 1, "10/01");
        int g = x.game(p);
        Check.due("nothing is forced", x.hint(g), -1);
        x.mark(g, 2, 1);
        x.mark(g, 3, 1);
        Check.due("a line ahead of the broken one", x.hint(g), -3);
        Check.due("broken lines", x.state(g, 2), 1);
        x.mark(g, 0, 1);
        Check.due("a forced cell ahead of it", x.hint(g), 4);
        Check.due("broken lines", x.state(g, 2), 2);
        x.mark(g, 1, 1);
        Check.due("all are broken", x.hint(g), -2);
        Check.due("broken lines", x.state(g, 2), 4);
        Check.due("broken ones are hints too", x.state(g, 6), 3);
        Check.due("no picture", x.state(g, 3), 0);
    }

    private static void state() {
        RunPictures x = new RunPictures();
        x.puzzle(1, 1, 1);
        int p = Pictures.make(x, 1, "10/01");
        int g = x.game(p);
        int[] fresh = {1, 0, 0, 0, 0, 0, 0};
        for (int what = 0; what < fresh.length; what++) {
            Check.due("state " + what + " at first", x.state(g, what), fresh[what]);
        }
        x.mark(g, 0, 0);
        x.mark(g, 1, 1);
        x.mark(g, 2, 1);
        Check.due("marked cells", x.state(g, 1), 3);
        Check.due("no picture yet", x.state(g, 3), 0);
        x.mark(g, 3, 0);
        Check.due("the other picture is one too", x.state(g, 3), 1);
        x.mark(g, 3, 1);
        Check.due("no picture", x.state(g, 3), 0);
        Check.due("broken lines", x.state(g, 2), 2);
        x.mark(g, 3, -1);
        Check.due("marked cells", x.state(g, 1), 3);
        Check.due("unmarked is not blank", x.state(g, 3), 0);
        x.undo(g);
        x.undo(g);
        int[] later = {1, 4, 0, 1, 4, 2, 0};
        for (int what = 0; what < later.length; what++) {
            Check.due("state " + what + " later", x.state(g, what), later[what]);
        }
        int[] wrong = {-1, 7, MOST, LEAST};
        for (int what : wrong) {
            Check.due("state " + what, x.state(g, what), -1);
        }
    }

    private static void noSuchGame() {
        RunPictures x = new RunPictures();
        x.game(x.puzzle(1, 1, 1));
        int[] wrong = {-1, 1, 20, MOST, LEAST};
        for (int g : wrong) {
            Check.due("mark in game " + g, x.mark(g, 0, 0), false);
            Check.due("marked in game " + g, x.marked(g, 0), -1);
            Check.due("undo in game " + g, x.undo(g), -1);
            Check.due("redo in game " + g, x.redo(g), -1);
            Check.due("hint in game " + g, x.hint(g), -1);
            Check.due("state of game " + g, x.state(g, 0), -1);
        }
    }
}
