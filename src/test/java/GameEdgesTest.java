/** The sentences of promises 22 to 28 (and of "Terms", 3) that name a boundary case, each with a test of its own. */
public final class GameEdgesTest {
    private static final String ONE_CELL = "puzzle(1, 1, 1); game(0) -> 0;";

    public static void main(String[] args) {
        game();
        twentyGames();
        mark();
        marksThatAreSo();
        refusedMarks();
        twoHundredChanges();
        newMarksAfterUndo();
        marked();
        undo();
        redo();
        hint();
        hintsOfTheLastLine();
        brokenHints();
        noHint();
        state();
        pictures();
        stateIsNone();
        Check.end("GameEdgesTest");
    }

    private static void game() {
        Talk.edge("22: A GAME of a puzzle begins: its number", """
            puzzle(2, 2, 1); puzzle(3, 1, 1); game(1) -> 0; game(0) -> 1; game(1) -> 2; state([0 2], 0) -> 1
            state(1, 0) -> 0
            count(1) -> 3
            """);
        Talk.edge("22: NONE if there is no such puzzle", """
            game([0 -1 MAX MIN]) -> -1; puzzle(2, 2, 1); game([1 -1 30 MAX MIN]) -> -1; count(1) -> 0; state(0, 0) -> -1
            game(0) -> 0
            """);
        Talk.edge("Terms 3: GAMES have MARKS: none (at first)", """
            puzzle(10, 10, 3); game(0); marked(0, [0..99]) -> -1; state(0, [1..6]) -> 0
            """);
        Talk.edge("22: each GAME has MARKS of its own", """
            puzzle(2, 1, 1); game(0); game(0); mark(0, 1, 1) -> 1; marked(1, 1) -> -1; undo(1) -> -1; mark(1, 1, 0) -> 1
            marked(0, 1) -> 1; undo(0) -> 1; marked(1, 1) -> 0; redo(1) -> -1; redo(0) -> 1
            """);
    }

    private static void twentyGames() {
        Talk games = new Talk("22: NONE if 20 came").script("puzzle(1, 1, 1); puzzle(1, 1, 1)");
        for (int g = 0; g < 20; g++) {
            games.due("game(2)", -1).due("game(" + g % 2 + ")", g);
        }
        games.script("""
            game([0 1]) -> -1; count(1) -> 20; state(19, 0) -> 1; state(20, 0) -> -1; mark(19, 0, 1) -> 1
            mark(20, 0, 1) -> 0
            puzzle(1, 1, 1) -> 2; game(2) -> -1; hint(20) -> -1; undo(20) -> -1; undo(19) -> 0
            """);
    }

    private static void mark() {
        Talk.edge("23: A cell's MARK in a GAME (NONE: it has none then): true", """
            puzzle(2, 2, 3); game(0); mark(0, 3, 0) -> 1; marked(0, 3) -> 0; mark(0, 3, 3) -> 1; marked(0, 3) -> 3
            mark(0, 3, -1) -> 1; marked(0, 3) -> -1; mark(0, 0, 3) -> 1; marked(0, 0) -> 3; marked(0, [1 2]) -> -1
            state(0, 4) -> 4; set(0, [0 3]) -> 15
            """);
        Talk.edge("23: a MARK that BREAKS a LINE is one too", ONE_CELL + """
            mark(0, 0, 1) -> 1; state(0, 2) -> 2; marked(0, 0) -> 1
            """);
    }

    private static void marksThatAreSo() {
        Talk.edge("23: false if it is so already", """
            puzzle(2, 1, 2); game(0); mark(0, 1, 2) -> 1; mark(0, 1, 2) -> 0; marked(0, 1) -> 2; state(0, 4) -> 1
            mark(0, 0, 0) -> 1; mark(0, 0, 0) -> 0; state(0, 4) -> 2; undo(0) -> 0; undo(0) -> 1; undo(0) -> -1
            """);
        Talk.edge("23: false if it has none already", """
            puzzle(2, 1, 2); game(0); mark(0, [0 1], -1) -> 0; state(0, 4) -> 0; mark(0, 0, 1); mark(0, 0, -1) -> 1
            mark(0, 0, -1) -> 0; state(0, 4) -> 2; undo(0) -> 0; marked(0, 0) -> 1
            """);
    }

    private static void refusedMarks() {
        Talk.edge("23: false if there is no such GAME", """
            mark([0 -1 MAX MIN], 0, [0 1 -1]) -> 0; puzzle(1, 1, 1); mark(0, 0, 1) -> 0; game(0)
            mark([1 -1 20 MAX MIN], 0, [0 1 -1]) -> 0; state(0, 4) -> 0; marked(0, 0) -> -1
            """);
        Talk.edge("23: false if there is no such cell", """
            puzzle(3, 2, 1); game(0); mark(0, [6 7 -1 100 MAX MIN], [0 1 -1]) -> 0; state(0, 4) -> 0
            mark(0, [0 5], 1) -> 1
            """);
        Talk.edge("23: false if there is no such colour", """
            puzzle(1, 1, 1); puzzle(1, 1, 2); puzzle(1, 1, 3); game(0); game(1); game(2); mark(0, 0, [2 3]) -> 0
            mark(1, 0, 3) -> 0
            mark([0..2], 0, [4 5 -2 -3 32 256 MAX MIN]) -> 0; state([0..2], [1 4]) -> 0
            mark(0, 0, 1) -> 1; mark(1, 0, 2) -> 1; mark(2, 0, 3) -> 1
            """);
    }

    private static Talk after200Changes(String sentence) {
        Talk talk = Talk.edge(sentence, "puzzle(2, 1, 1); game(0); game(0)");
        for (int i = 0; i < 199; i++) {
            talk.due("mark(0, 0, " + i % 2 + ")", 1);
        }
        return talk.script("state(0, 4) -> 199; mark(0, 1, 1) -> 1; state(0, 4) -> 200");
    }

    private static void twoHundredChanges() {
        after200Changes("23: false if 200 changes of MARKS can be taken back").script("""
            mark(0, 0, [1 -1]) -> 0; mark(0, 1, [0 -1]) -> 0; marked(0, 0) -> 0; marked(0, 1) -> 1; state(0, 4) -> 200
            mark(1, 0, 1) -> 1
            """);
        after200Changes("23: fewer can be taken back, when one was").script("""
            undo(0) -> 1; state(0, 4) -> 199; state(0, 5) -> 1; marked(0, 1) -> -1; mark(0, 1, 0) -> 1
            state(0, 4) -> 200
            state(0, 5) -> 0; mark(0, 1, 1) -> 0; redo(0) -> -1; undo(0) -> 1; undo(0) -> 0; marked(0, 0) -> 1
            """);
        after200Changes("23: what was done again can be taken back").script("""
            undo(0) -> 1; undo(0) -> 0; redo(0) -> 0; redo(0) -> 1; redo(0) -> -1; mark(0, 1, 0) -> 0
            state(0, 4) -> 200
            """);
        Talk back = after200Changes("25: all 200 changes are taken back, and no more").script("undo(0) -> 1");
        back.script("undo(0) -> 0;".repeat(199)).script("""
            undo(0) -> -1; marked(0, [0 1]) -> -1; state(0, 4) -> 0; state(0, 5) -> 200; redo(0) -> 0; marked(0, 0) -> 0
            """);
    }

    private static void newMarksAfterUndo() {
        Talk.edge("23: (What was taken back can't be done again then.)", """
            puzzle(3, 1, 1); game(0); mark(0, [0 1 2], 1) -> 1; undo(0) -> 2; undo(0) -> 1; state(0, 5) -> 2
            mark(0, 2, 0) -> 1; state(0, 5) -> 0; redo(0) -> -1; marked(0, 1) -> -1; marked(0, 2) -> 0; state(0, 4) -> 2
            undo(0) -> 2; undo(0) -> 0; undo(0) -> -1; redo(0) -> 0; redo(0) -> 2; redo(0) -> -1; marked(0, 1) -> -1
            """);
        Talk.edge("23: not even if the new MARK is the one that was taken back", ONE_CELL + """
            mark(0, 0, 1); mark(0, 0, 0); undo(0) -> 0; undo(0) -> 0; mark(0, 0, 1) -> 1; state(0, 5) -> 0
            redo(0) -> -1
            """);
        Talk.edge("23: a MARK that is refused leaves what was taken back", """
            puzzle(2, 1, 1); game(0); mark(0, 0, 1); mark(0, 1, 1); undo(0) -> 1; mark(0, 0, 1) -> 0
            mark(0, 1, -1) -> 0
            mark(0, 2, 1) -> 0; mark(0, 0, 2) -> 0; mark(1, 0, 1) -> 0; state(0, 5) -> 1; redo(0) -> 1
            marked(0, 1) -> 1
            """);
    }

    private static void marked() {
        Talk.edge("24: NONE without", "puzzle(2, 1, 1); game(0); mark(0, 0, 0); marked(0, 0) -> 0; marked(0, 1) -> -1");
        Talk.edge("24: NONE if there is no such GAME", """
            marked([0 -1 MAX MIN], 0) -> -1; puzzle(1, 1, 1); game(0); mark(0, 0, 1); marked([1 -1 20 MAX MIN], 0) -> -1
            """);
        Talk.edge("24: NONE if there is no such cell", """
            puzzle(3, 2, 1); game(0); mark(0, [0..5], 1); marked(0, [6 7 -1 100 MAX MIN]) -> -1; marked(0, 5) -> 1
            """);
    }

    private static void undo() {
        Talk.edge("25: The latest change of MARKS that wasn't taken back is taken back: its cell", """
            puzzle(2, 2, 2); game(0); mark(0, 3, 1); mark(0, 3, 2); mark(0, 3, -1); mark(0, 0, 0)
            undo(0) -> 0; marked(0, 0) -> -1; undo(0) -> 3; marked(0, 3) -> 2; undo(0) -> 3; marked(0, 3) -> 1
            undo(0) -> 3
            marked(0, 3) -> -1
            """);
        Talk.edge("25: NONE if there is none such", """
            undo([0 -1 MAX MIN]) -> -1; puzzle(1, 1, 1); game(0); undo(0) -> -1; mark(0, 0, 1); undo(0) -> 0
            undo(0) -> -1
            state(0, 5) -> 1; undo([1 -1 20 MAX MIN]) -> -1; redo(0) -> 0; marked(0, 0) -> 1
            """);
        Talk.edge("25: a MARK that was refused is no change", ONE_CELL + """
            mark(0, 0, [1 1 1 2]); undo(0) -> 0; undo(0) -> -1
            """);
    }

    private static void redo() {
        Talk.edge("26: The change of MARKS that was taken back latest is done again: its cell", """
            puzzle(2, 2, 2); game(0); mark(0, 3, 1); mark(0, 0, 2); mark(0, 3, -1); undo([0 0 0])
            marked(0, [0..3]) -> -1
            redo(0) -> 3; marked(0, 3) -> 1; redo(0) -> 0; marked(0, 0) -> 2; redo(0) -> 3; marked(0, 3) -> -1
            """);
        Talk.edge("26: NONE if there is none such", """
            redo([0 -1 MAX MIN]) -> -1; puzzle(1, 1, 1); game(0); redo(0) -> -1; mark(0, 0, 1); redo(0) -> -1
            undo(0) -> 0
            redo([1 -1 20 MAX MIN]) -> -1; redo(0) -> 0; redo(0) -> -1; state(0, 4) -> 1; undo(0) -> 0
            """);
    }

    private static void hint() {
        Talk.ofClues("27: the first LINE; of several cells the first one in it", 2, 2, 1, "0/2a/1a/1a").script("""
            game(0); hint(0) -> 0; mark(0, 0, 0); hint(0) -> 4; mark(0, 1, 0); hint(0) -> 9; mark(0, 3, 1); hint(0) -> 9
            mark(0, 2, 1); hint(0) -> -1; state(0, 6) -> 4
            """);
        Talk.ofClues("27: of several cells the first one in a column", 2, 3, 1, "1a/1a/1a/3a/0").script("""
            game(0); hint(0) -> 1; mark(0, 0, 1); hint(0) -> 4; mark(0, 1, 0); hint(0) -> 9
            """);
        Talk.ofClues("27: leaves one alone to a cell without a MARK", 3, 1, 1, "3a/1a/1a/1a").script("""
            game(0); mark(0, 0, 1); mark(0, 1, 1); hint(0) -> 9; mark(0, 2, 1); hint(0) -> -1; mark(0, 1, -1)
            hint(0) -> 5
            """);
        Talk.ofClues("27: by the MARKS, not by the DESK", 2, 2, 1, "1a/1a/1a/1a").script("""
            game(0); choose(0, 0, 1); settle(0); hint(0) -> -1; mark(0, 3, 0); hint(0) -> 9; mark(0, 3, -1)
            hint(0) -> -1
            """);
        Talk.ofClues("27: two LINES together force a cell, but none alone", 2, 2, 2, "1a/1b/1b/1a").script("""
            game(0); hint(0) -> -1; state(0, 6) -> 0; settle(0) -> 1; told(0, 4) -> 4
            """);
    }

    private static Talk lastLine(String sentence) {
        Talk talk = Talk.ofClues(sentence, 10, 10, 3, "1b 1c/".repeat(10) + "1b/".repeat(9) + "10c").script("game(0)");
        return talk.script("mark(0, [9 19 29 39 49 59 69 79 89], 3)");
    }

    private static void hintsOfTheLastLine() {
        lastLine("27: 4 times the cell and what is left: the last cell, the last COLOUR").script("hint(0) -> 399; mark(0, 99, 3)");
        lastLine("27: if it is BROKEN, -2 less its number: the last LINE").script("mark(0, 99, 0); hint(0) -> -21; state(0, 2) -> 1");
    }

    private static void brokenHints() {
        Talk.edge("27: if it is BROKEN, -2 less its number: the first LINE", ONE_CELL + """
            mark(0, 0, 1); hint(0) -> -2; state(0, 6) -> 1
            """);
        Talk.ofClues("27: a LINE ahead of the BROKEN one", 2, 2, 1, "1a/1a/1a/1a").script("""
            game(0); mark(0, 2, 1); mark(0, 3, 1); hint(0) -> -3; mark(0, 0, 0); hint(0) -> 5; mark(0, 1, 0)
            hint(0) -> -2
            state(0, 2) -> 2; state(0, 6) -> 3
            """);
        Talk.ofClues("27: a LINE that would force a cell, behind the BROKEN one", 2, 2, 1, "1a/2a/1a/2a").script("""
            game(0); mark(0, [0 1], 0); hint(0) -> -2; mark(0, 0, -1); hint(0) -> 1; state(0, 2) -> 1
            """);
        Talk.ofClues("27: BROKEN, though no cell of it is without a MARK", 3, 1, 1, "1a 1a/1a/1a/1a").script("""
            game(0); mark(0, 0, 1); mark(0, 1, 0); mark(0, 2, 1); hint(0) -> -4; mark(0, 2, 0); hint(0) -> -2
            """);
    }

    private static void noHint() {
        Talk.ofClues("27: NONE if there is none such: nothing is forced", 2, 2, 1, "1a/1a/1a/1a").script("""
            game(0); hint([0 0]) -> -1; state(0, 6) -> 0; mark(0, 0, 1); hint(0) -> 4; state(0, 6) -> 1
            mark(0, 1, 0); mark(0, 2, 0); mark(0, 3, 1); hint(0) -> -1; state(0, 3) -> 1; state(0, 6) -> 1
            """);
        Talk.edge("27: NONE if there is no such GAME", """
            hint([0 -1 MAX MIN]) -> -1; puzzle(1, 1, 1); hint(0) -> -1; game(0); hint([1 -1 20 MAX MIN]) -> -1
            state(0, 6) -> 0
            hint(0) -> 0; state(0, 6) -> 1
            """);
        Talk.edge("27: a hint leaves the MARKS", ONE_CELL + """
            hint([0 0]) -> 0; marked(0, 0) -> -1; state(0, [1 4 5]) -> 0; state(0, 6) -> 2
            """);
    }

    private static void state() {
        Talk.edge("28: 1 cells with a MARK", """
            puzzle(2, 2, 1); game(0); mark(0, [0 1], 0); mark(0, 2, 1); state(0, 1) -> 3; mark(0, 0, -1)
            state(0, 1) -> 2
            mark(0, 1, 1); state(0, 1) -> 2; undo(0); undo(0); state(0, 1) -> 3; mark(0, 3, 1); state(0, 1) -> 4
            """);
        Talk.ofClues("28: 2 LINES that are BROKEN by the MARKS", 2, 2, 1, "1a/1a/1a/1a").script("""
            game(0); state(0, 2) -> 0; mark(0, 0, 1); state(0, 2) -> 0; mark(0, 1, 1); state(0, 2) -> 1; mark(0, 2, 1)
            state(0, 2) -> 2; mark(0, 3, 1); state(0, 2) -> 4; undo(0); state(0, 2) -> 2; choose(0, 3, 1)
            state(0, 2) -> 2
            """);
        Talk.edge("28: 4 changes that can be taken back, 5 that can be done again", ONE_CELL + """
            state(0, [4 5]) -> 0; mark(0, 0, [0 1 0]); state(0, 4) -> 3; state(0, 5) -> 0; undo(0); state(0, 4) -> 2
            state(0, 5) -> 1; undo([0 0]); state(0, 4) -> 0; state(0, 5) -> 3; undo(0); state(0, 5) -> 3; redo(0)
            state(0, 4) -> 1; state(0, 5) -> 2; mark(0, 0, 1); state(0, 4) -> 2; state(0, 5) -> 0
            """);
        Talk.ofClues("28: 6 hints that were given (no NONE)", 2, 1, 1, "1a/1a/0").script("""
            game(0); game(0); hint(0) -> 1; hint(0) -> 1; mark(0, 0, 1); hint(0) -> 4; mark(0, 1, 0); hint([0 0]) -> -1
            state(0, 6) -> 3; mark(0, 1, 1); hint(0) -> -2; state(0, 6) -> 4; undo([0 0 0]); state(0, 6) -> 4
            state(1, 6) -> 0
            """);
    }

    private static void pictures() {
        Talk.ofClues("28: 3 whether the MARKS are a PICTURE", 2, 2, 1, "1a/1a/1a/1a").script("""
            game(0); state(0, 3) -> 0; mark(0, 0, 1); mark(0, 1, 0); mark(0, 2, 0); state(0, 3) -> 0; state(0, 2) -> 0
            mark(0, 3, 1); state(0, 3) -> 1; mark(0, 3, 0); state(0, 3) -> 0; state(0, 1) -> 4; undo(0)
            state(0, 3) -> 1
            mark(0, 3, -1); state(0, 3) -> 0
            """);
        Talk.edge("28: a cell without a MARK isn't BLANK", """
            puzzle(2, 1, 1); game(0); state(0, 3) -> 0; mark(0, 0, 0); state(0, 3) -> 0; mark(0, 1, 0); state(0, 3) -> 1
            """);
        Talk.ofClues("28: rows that are right alone are no PICTURE", 2, 2, 1, "1a/1a/2a/0").script("""
            game(0); mark(0, 0, 1); mark(0, 1, 0); mark(0, 2, 0); mark(0, 3, 1); state(0, 3) -> 0; state(0, 2) -> 2
            mark(0, 2, 1); mark(0, 3, 0); state(0, 3) -> 1; state(0, 2) -> 0
            """);
        Talk.ofClues("28: columns that are right alone are no PICTURE", 2, 2, 1, "2a/0/1a/1a").script("""
            game(0); mark(0, 0, 1); mark(0, 1, 0); mark(0, 2, 0); mark(0, 3, 1); state(0, 3) -> 0; state(0, 2) -> 2
            """);
    }

    private static void stateIsNone() {
        Talk.edge("28: NONE for others", ONE_CELL + "state(0, [7 8 -1 -2 MAX MIN]) -> -1");
        Talk.edge("28: NONE if there is no such GAME", """
            state(0, [0..6]) -> -1; puzzle(1, 1, 1); state(0, [0..6]) -> -1; game(0)
            state([1 -1 20 MAX MIN], [0..7]) -> -1
            """);
    }
}
