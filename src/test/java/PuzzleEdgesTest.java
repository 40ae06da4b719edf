/** The sentences of "Terms" and of promises 1 to 5 that name a boundary case, each with a test of its own. */
public final class PuzzleEdgesTest {
    public static void main(String[] args) {
        newObject();
        sizes();
        thirtyPuzzles();
        cellsAndLines();
        fillings();
        runsThatCome();
        runsThatNoFillingHas();
        everyPairOfRuns();
        runsOfGames();
        runsAndTheDesk();
        told();
        clue();
        Check.end("PuzzleEdgesTest");
    }

    private static void newObject() {
        Talk.edge("1: No puzzles, no GAMES", """
            count([0 1]) -> 0
            told([0 1 -1 MAX MIN], [0..4]) -> -1
            state([0 1 -1 MAX MIN], [0..6]) -> -1
            grade(0) -> -1; search(0, 0, 1) -> -1; settle(0) -> -1; turn(0, 0) -> -1; same(0, 0) -> -1; game(0) -> -1
            fresh(0) -> 0; set(0, 0) -> 0; mark(0, 0, 0) -> 0; undo(0) -> -1; redo(0) -> -1; hint(0) -> -1
            write(0, 0) -> -1; out(0) -> -1; count([0 1]) -> 0
            """);
        Talk one = Talk.edge("1: what one object holds, another one doesn't", """
            puzzle(1, 1, 1) -> 0; game(0) -> 0; paint(0, 0, 1) -> 1; search(0, 0, 1) -> 1; write(0, 0) -> 1
            """);
        Talk.edge("1: what one object holds, another one doesn't", """
            count([0 1]) -> 0; found(-1) -> 0; out(0) -> -1; make(1, 1, 1) -> 0; told(0, 3) -> 0
            """);
        one.script("count([0 1]) -> 1; found(-1) -> 1; out(0) -> '0'");
    }

    private static void sizes() {
        for (int side = 1; side <= 10; side++) {
            new Talk("Terms 1: WIDTH 1 .. 10").due("puzzle(" + side + ", 3, 1)", 0).due("told(0, 0)", side)
                .due("told(0, 1)", 3).due("set(0, " + (3 * side - 1) + ")", 3).due("set(0, " + 3 * side + ")", 0)
                .due("ways(0, " + (side + 2) + ")", 1).due("ways(0, " + (side + 3) + ")", -1);
            new Talk("Terms 1: HEIGHT 1 .. 10").due("puzzle(3, " + side + ", 1)", 0).due("told(0, 1)", side)
                .due("told(0, 0)", 3).due("set(0, " + (3 * side - 1) + ")", 3).due("set(0, " + 3 * side + ")", 0)
                .due("ways(0, " + (side + 2) + ")", 1).due("ways(0, " + (side + 3) + ")", -1);
        }
        Talk.edge("Terms 1: COLOURS 1 .. n (n 1 .. 3; 0 is BLANK)", """
            puzzle(1, 1, 1) -> 0; puzzle(1, 1, 2) -> 1; puzzle(1, 1, 3) -> 2
            told(0, 2) -> 1; told(1, 2) -> 2; told(2, 2) -> 3
            """);
        Talk.edge("Terms 1: both sides at their least and at their most", """
            puzzle(1, 1, 1) -> 0; puzzle(10, 10, 3) -> 1; puzzle(1, 10, 1) -> 2; puzzle(10, 1, 3) -> 3
            set(0, 0) -> 3; set(0, 1) -> 0; set(1, 99) -> 15; set(1, 100) -> 0
            set(2, 9) -> 3; set(3, 9) -> 15; set([2 3], 10) -> 0
            """);
        Talk.edge("2: NONE if there is no such WIDTH", """
            puzzle([0 11 -1 12 MAX MIN], [1 5 10], [1 3]) -> -1; count(0) -> 0; puzzle(10, 5, 1) -> 0
            """);
        Talk.edge("2: NONE if there is no such HEIGHT", """
            puzzle([1 5 10], [0 11 -1 12 MAX MIN], [1 3]) -> -1; count(0) -> 0; puzzle(5, 10, 1) -> 0
            """);
        Talk.edge("2: NONE if there is no such number of COLOURS", """
            puzzle([1 5 10], [1 10], [0 4 -1 5 MAX MIN]) -> -1; count(0) -> 0; puzzle(5, 5, 3) -> 0
            """);
        Talk.edge("2: NONE if the sides only make up for one another", """
            puzzle(-2, -2, 1) -> -1; puzzle(20, 5, 1) -> -1; puzzle(5, 20, 1) -> -1; puzzle(100, 1, 1) -> -1
            puzzle(65536, 65536, 1) -> -1; puzzle(1, 1, 257) -> -1; puzzle(257, 1, 1) -> -1; count(0) -> 0
            """);
    }

    private static void thirtyPuzzles() {
        Talk puzzles = new Talk("2: NONE if 30 came");
        for (int i = 0; i < 30; i++) {
            puzzles.due("puzzle(0, 1, 1)", -1).due("puzzle(1, 1, 1)", i);
        }
        puzzles.script("""
            puzzle(1, 1, 1) -> -1; puzzle(10, 10, 3) -> -1; count(0) -> 30; told(29, 0) -> 1; told(30, 0) -> -1
            run(29, 0, 1, 1) -> 1; run(30, 0, 1, 1) -> -1
            """);
        Talk made = new Talk("19: NONE as of puzzle() (30 came)");
        for (int i = 0; i < 30; i++) {
            made.due("make(1, 1, 4)", -1).due("make(1, 1, 1)", i);
        }
        made.script("make(1, 1, 1) -> -1; puzzle(1, 1, 1) -> -1; turn(0, 0) -> -1; count(0) -> 30; told(30, 0) -> -1");
        Talk turned = new Talk("20: NONE if 30 came").script("puzzle(2, 1, 1) -> 0");
        for (int i = 1; i < 30; i++) {
            turned.due("turn(0, 8)", -1).due("turn(" + (i - 1) + ", 4)", i);
        }
        turned.script("turn([0 29], [0..7]) -> -1; puzzle(1, 1, 1) -> -1; make(1, 1, 1) -> -1; count(0) -> 30");
        turned.script("told(29, 0) -> 1; told(29, 1) -> 2; told(30, 0) -> -1");
        Talk mixed = new Talk("Terms 1: PUZZLES have numbers 0, 1, .. as they come");
        for (int i = 0; i < 30; i += 3) {
            mixed.due("puzzle(2, 3, 1)", i).due("make(4, 1, 2)", i + 1).due("turn(0, 4)", i + 2);
        }
        mixed.script("told(27, 0) -> 2; told(28, 0) -> 4; told(29, 0) -> 3; count(0) -> 30; puzzle(1, 1, 1) -> -1");
    }

    private static void cellsAndLines() {
        Talk.edge("Terms 1: CELLS are numbered y * w + x", """
            puzzle(3, 2, 1); run(0, 1, 1, 3); step(0, 1) -> 3; set(0, [0..2]) -> 3; set(0, [3..5]) -> 2
            """);
        Talk.edge("Terms 1: LINES: 0 .. h - 1 the rows from the top", """
            puzzle(3, 2, 1); run(0, 0, 1, 3); step(0, 0) -> 3; set(0, [0..2]) -> 2; set(0, [3..5]) -> 3
            """);
        Talk.edge("Terms 1: h .. h + w - 1 the columns from the left", """
            puzzle(3, 2, 1); run(0, 2, 1, 2) -> 1; run(0, 4, 1, 2) -> 1; run(0, 5, 1, 1) -> -1; run(0, 3, 1, 3) -> -1
            step(0, 2) -> 2; step(0, 4) -> 2; set(0, [0 2 3 5]) -> 2; set(0, [1 4]) -> 3
            """);
        Talk.edge("Terms 1: rows' cells from the left", """
            puzzle(2, 2, 2); run(0, 1, 1, 1); run(0, 1, 2, 1); step(0, 1) -> 4; set(0, 2) -> 2; set(0, 3) -> 4
            """);
        Talk.edge("Terms 1: columns' cells from the top", """
            puzzle(2, 2, 2); run(0, 3, 1, 1); run(0, 3, 2, 1); step(0, 3) -> 4; set(0, 1) -> 2; set(0, 3) -> 4
            """);
        Talk.edge("Terms 1: a row of RUNS (none at first)", """
            puzzle(10, 10, 3); told(0, 3) -> 0; clue(0, [0..19], 0, [0 1]) -> -1; ways(0, [0..19]) -> 1
            """);
    }

    private static void fillings() {
        Talk.edge("Terms 1: stretches of cells of one COLOUR, each as long as can be", """
            puzzle(4, 1, 1); run(0, 0, 1, 1); run(0, 0, 1, 2); ways(0, 0) -> 1
            step(0, 0) -> 4; set(0, 0) -> 2; set(0, 1) -> 1; set(0, [2 3]) -> 2
            """);
        Talk.edge("Terms 1: stretches of two COLOURS may touch", """
            puzzle(4, 1, 2); run(0, 0, 1, 1); run(0, 0, 2, 2); ways(0, 0) -> 3
            """);
        Talk.edge("Terms 1: A FILLING gives each of its cells one of 0 .. n", """
            puzzle(1, 1, 3); set(0, 0) -> 15; step(0, 0) -> 3; set(0, 0) -> 1
            """);
        Talk.edge("Terms 3: Each puzzle has a DESK: SETS, FULL at first", """
            puzzle(2, 2, 1); puzzle(2, 2, 2); puzzle(2, 2, 3); make(2, 2, 2); turn(1, 7)
            set(0, [0..3]) -> 3; set(1, [0..3]) -> 7; set(2, [0..3]) -> 15; set(3, [0..3]) -> 7; set(4, [0..3]) -> 7
            """);
    }

    private static void runsThatCome() {
        Talk.edge("3: A RUN comes to the end of a LINE's CLUES; how many it has", """
            puzzle(5, 5, 3); run(0, 0, 3, 1) -> 1; run(0, 0, 1, 2) -> 2; run(0, 9, 1, 1) -> 1; run(0, 0, 2, 1) -> 3
            clue(0, 0, [0 2], 1) -> 1; clue(0, 0, 0, 0) -> 3; clue(0, 0, 1, 0) -> 1; clue(0, 0, 1, 1) -> 2
            clue(0, 0, 2, 0) -> 2; told(0, 3) -> 4
            """);
        Talk.edge("3: NONE if there is no such puzzle", """
            run([0 -1 MAX MIN], 0, 1, 1) -> -1; puzzle(5, 5, 1); run([1 -1 30 MAX MIN], 0, 1, 1) -> -1; told(0, 3) -> 0
            """);
        Talk.edge("3: NONE if there is no such LINE", """
            puzzle(4, 3, 1); run(0, [7 8 -1 20 MAX MIN], 1, 1) -> -1; told(0, 3) -> 0; run(0, [0..6], 1, 1) -> 1
            """);
        Talk.edge("3: NONE if there is no such COLOUR (1 .. n)", """
            puzzle(9, 9, 1); puzzle(9, 9, 2); puzzle(9, 9, 3)
            run([0..2], 0, [0 4 -1 MAX MIN], 1) -> -1; run(0, 0, [2 3], 1) -> -1; run(1, 0, 3, 1) -> -1
            told([0..2], 3) -> 0
            run([0..2], 0, 1, 1) -> 1; run([1 2], 0, 2, 1) -> 2; run(2, 0, 3, 1) -> 3
            """);
        Talk.edge("3: NONE if the LENGTH is below 1", """
            puzzle(5, 5, 1); run(0, [0 9], 1, [0 -1 -5 MIN]) -> -1; told(0, 3) -> 0; run(0, [0 9], 1, 1) -> 1
            run(0, [0 9], 1, [0 -1 MIN]) -> -1; told(0, 3) -> 2
            """);
    }

    private static void runsThatNoFillingHas() {
        Talk.edge("3: NONE if no FILLING of the LINE has these RUNS", """
            puzzle(6, 4, 2); run(0, 0, 1, [7 8 11 MAX]) -> -1; run(0, 4, 1, [5 6 MAX]) -> -1; told(0, 3) -> 0
            run(0, 0, 1, 6) -> 1; run(0, 4, 1, 4) -> 1; run(0, [0 4], [1 2], [1 MAX]) -> -1; told(0, 3) -> 2
            """);
        Talk.edge("3: RUNS of one COLOUR need a cell between them", """
            puzzle(5, 1, 2); run(0, 0, 1, 2) -> 1; run(0, 0, 1, 3) -> -1; run(0, 0, 1, 2) -> 2; run(0, 0, 2, 1) -> -1
            """);
        Talk.edge("3: RUNS of two COLOURS need none", """
            puzzle(5, 1, 2); run(0, 0, 1, 2) -> 1; run(0, 0, 2, 4) -> -1; run(0, 0, 2, 3) -> 2; run(0, 0, 1, 1) -> -1
            """);
        Talk.edge("3: all RUNS of the LINE count, the latest one's COLOUR for the cell between", """
            puzzle(7, 1, 2); run(0, 0, 1, 1) -> 1; run(0, 0, 2, 1) -> 2; run(0, 0, 1, 1) -> 3; run(0, 0, 1, 4) -> -1
            run(0, 0, 1, 3) -> 4; run(0, 0, 2, 1) -> -1
            """);
        Talk.edge("3: as many RUNS as there are cells, and one more", """
            puzzle(10, 10, 3)
            run(0, 19, 1, 1) -> 1; run(0, 19, 2, 1) -> 2; run(0, 19, 3, 1) -> 3; run(0, 19, 1, 1) -> 4
            run(0, 19, 2, 1) -> 5; run(0, 19, 3, 1) -> 6; run(0, 19, 1, 1) -> 7; run(0, 19, 2, 1) -> 8
            run(0, 19, 3, 1) -> 9; run(0, 19, 1, 1) -> 10; run(0, 19, [1 2 3], 1) -> -1
            clue(0, 19, 9, 0) -> 1; clue(0, 19, 10, 0) -> -1
            """);
        Talk.edge("3: the SETS on the DESK don't count there", """
            puzzle(3, 1, 1); choose(0, 1, 0) -> 1; run(0, 0, 1, 3) -> 1
            """);
        Talk.edge("3: the LINES that cross it don't count there", """
            puzzle(2, 2, 1); run(0, 0, 1, 2) -> 1; run(0, 1, 1, 2) -> 1; settle(0) -> -2; run(0, 2, 1, 1) -> 1
            """);
    }

    private static void everyPairOfRuns() {
        for (int length = 1; length <= 10; length++) {
            for (int first = 1; first <= length; first++) {
                Talk rows = new Talk("3: two RUNS in a LINE of " + length);
                rows.script("puzzle(" + length + ", 10, 2); run(0, [0..9], 1, " + first + ") -> 1");
                for (int second = 1; second <= 10; second++) {
                    int line = second - 1;
                    rows.due("run(0, " + line + ", 1, " + second + ")", first + second + 1 <= length ? 2 : -1);
                }
                Talk columns = new Talk("3: two RUNS in a LINE of " + length);
                columns.script("puzzle(10, " + length + ", 2)");
                for (int second = 1; second <= 10; second++) {
                    int line = length + second - 1;
                    columns.due("run(0, " + line + ", 2, " + first + ")", 1);
                    columns.due("run(0, " + line + ", 1, " + second + ")", first + second <= length ? 2 : -1);
                }
            }
        }
    }

    private static void runsOfGames() {
        Talk.edge("3: NONE if a GAME of the puzzle was begun", """
            puzzle(5, 5, 1); puzzle(5, 5, 1); run(0, 0, 1, 1) -> 1; game(0) -> 0
            run(0, [0..9], 1, 1) -> -1; told(0, 3) -> 1; run(1, 0, 1, 1) -> 1; game(1) -> 1; run([0 1], 3, 1, 1) -> -1
            """);
        Talk.edge("3: a GAME that was refused was not begun", """
            puzzle(5, 5, 1); game([1 -1 MAX MIN]) -> -1; run(0, 0, 1, 1) -> 1
            """);
        Talk full = new Talk("3: the 21st GAME is refused, so it was not begun").script("puzzle(1, 1, 1); puzzle(1, 1, 1)");
        full.script("game(0); ".repeat(20) + "game(1) -> -1; run(0, 0, 1, 1) -> -1; run(1, 0, 1, 1) -> 1");
        Talk.edge("20: a turned puzzle is one of its own, no GAME of it was begun", """
            puzzle(5, 5, 1); game(0) -> 0; turn(0, 0) -> 1; run(1, 0, 1, 1) -> 1; run(0, 0, 1, 1) -> -1
            """);
    }

    private static void runsAndTheDesk() {
        Talk.edge("Terms 3: FULL again, when a RUN comes to the puzzle", """
            puzzle(2, 2, 2); puzzle(2, 2, 2); choose([0 1], 3, 2) -> 1; bar([0 1], 0, 0) -> 1
            run(0, 0, 1, 1) -> 1; set(0, [0..3]) -> 7; set(1, 0) -> 6; set(1, 3) -> 4
            """);
        Talk.edge("3: a RUN that is refused leaves the DESK", """
            puzzle(2, 2, 2); choose(0, 3, 2); run(0, 0, 1, [0 3]) -> -1; run(0, 4, 1, 1) -> -1; run(0, 0, 3, 1) -> -1
            set(0, 3) -> 4; game(0); run(0, 0, 1, 1) -> -1; set(0, 3) -> 4
            """);
    }

    private static void told() {
        Talk.edge("4: 0 its WIDTH, 1 HEIGHT, 2 number of COLOURS", """
            puzzle(10, 1, 3); puzzle(1, 10, 1); told(0, 0) -> 10; told(0, 1) -> 1; told(0, 2) -> 3
            told(1, 0) -> 1; told(1, 1) -> 10; told(1, 2) -> 1
            """);
        Talk.edge("4: 3 RUNS of all its LINES", """
            puzzle(3, 2, 1); told(0, 3) -> 0; run(0, [0..4], 1, 1); told(0, 3) -> 5; run(0, 1, 1, 1) -> 2
            told(0, 3) -> 6
            run(0, 1, 1, 1) -> -1; told(0, 3) -> 6
            """);
        Talk.edge("4: 4 cells whose SET on its DESK has one", """
            puzzle(2, 2, 3); puzzle(2, 2, 3); told(0, 4) -> 0; bar(0, 0, [0 1]); told(0, 4) -> 0; bar(0, 0, 3)
            told(0, 4) -> 1; choose(0, [1 2 3], 0); told(0, 4) -> 4; told(1, 4) -> 0; fresh(0); told(0, 4) -> 0
            """);
        Talk.edge("4: NONE for others", "puzzle(2, 2, 1); told(0, [5 6 -1 -2 MAX MIN]) -> -1");
        Talk.edge("4: NONE if there is no such puzzle", """
            told(0, [0..4]) -> -1; puzzle(2, 2, 1); told([1 -1 30 MAX MIN], [0..5]) -> -1
            """);
    }

    private static void clue() {
        String three = "puzzle(5, 4, 3); run(0, 1, 1, 2); run(0, 1, 3, 1); run(0, 8, 2, 4);";
        Talk.edge("5: Of the i-th RUN (from 0 on): what 0 its COLOUR, 1 its LENGTH", three + """
            clue(0, 1, 0, 0) -> 1; clue(0, 1, 0, 1) -> 2; clue(0, 1, 1, 0) -> 3; clue(0, 1, 1, 1) -> 1
            clue(0, 8, 0, 0) -> 2; clue(0, 8, 0, 1) -> 4
            """);
        Talk.edge("5: NONE for others", three + "clue(0, 1, [0 1], [2 3 -1 MAX MIN]) -> -1");
        Talk.edge("5: NONE if there is no such RUN", three + """
            clue(0, 1, [2 3 -1 10 MAX MIN], [0 1]) -> -1; clue(0, 8, [1 4 -1], [0 1]) -> -1
            """);
        Talk.edge("5: NONE if a LINE has no RUNS", three + "clue(0, [0 2..7], [0 1], [0 1]) -> -1");
        Talk.edge("5: NONE if there is no such LINE", three + "clue(0, [9 10 -1 MAX MIN], 0, [0 1]) -> -1");
        Talk.edge("5: NONE if there is no such puzzle", three + "clue([1 -1 30 MAX MIN], [1 8], 0, [0 1]) -> -1");
    }
}
