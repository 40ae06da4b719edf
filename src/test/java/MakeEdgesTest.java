/** The sentences of promises 18 to 21 (and of "Terms", 3) that name a boundary case, each with a test of its own. */
public final class MakeEdgesTest {
    public static void main(String[] args) {
        canvas();
        refusedPaint();
        make();
        refusedMake();
        turn();
        eachTurn();
        refusedTurn();
        same();
        sameIsNone();
        Check.end("MakeEdgesTest");
    }

    private static void canvas() {
        Talk.edge("Terms 3: The CANVAS has 10 by 10 cells, each one of 0 .. 3 (0 at first)", """
            make(10, 10, 1) -> 0; told(0, 3) -> 0; ways(0, [0..19]) -> 1
            """);
        Talk.edge("18: A cell of the CANVAS: true, at each of its edges", """
            paint(0, 0, 1) -> 1; paint(9, 0, 2) -> 1; paint(0, 9, 3) -> 1; paint(9, 9, 1) -> 1; make(10, 10, 3) -> 0
            told(0, 3) -> 8; clue(0, 0, 0, 0) -> 1; clue(0, 0, 1, 0) -> 2; clue(0, 9, 0, 0) -> 3; clue(0, 9, 1, 0) -> 1
            clue(0, 10, 0, 0) -> 1; clue(0, 10, 1, 0) -> 3; clue(0, 19, 0, 0) -> 2; clue(0, 19, 1, 0) -> 1
            """);
        Talk.edge("18: each of 0 .. 3, also where it is so already", """
            paint(4, 5, [0 0 1 1 2 3 3]) -> 1; make(5, 6, 3) -> 0; clue(0, 5, 0, 0) -> 3; paint(4, 5, 0) -> 1
            make(5, 6, 1) -> 1; told(1, 3) -> 0
            """);
    }

    private static void refusedPaint() {
        Talk.edge("18: false if there is no such cell", """
            paint([10 11 -1 100 MAX MIN], [0 9 1], 1) -> 0; paint([0 9 1], [10 11 -1 100 MAX MIN], 1) -> 0
            make(10, 10, 1); told(0, 3) -> 0
            """);
        Talk.edge("18: false if x and y only make up for one another", """
            paint(10, -1, 1) -> 0; paint(-1, 1, 1) -> 0; paint(-10, 1, 1) -> 0; paint(99, 0, 1) -> 0
            paint(19, -1, 1) -> 0
            paint(6, 429496729, 1) -> 0; paint(-6, 858993460, 1) -> 0; make(10, 10, 1); told(0, 3) -> 0
            """);
        Talk.edge("18: false if not 0 <= colour <= 3", """
            paint(0, 0, 2) -> 1; paint(0, 0, [4 5 -1 256 MAX MIN]) -> 0; paint(1, 0, [4 -1]) -> 0
            make(10, 10, 3); told(0, 3) -> 2; clue(0, 0, 0, 0) -> 2
            """);
    }

    private static void make() {
        Talk.ofPicture("19: the CANVAS's cells with x below width, y below height", 1, "111/111/111").script("""
            make(2, 1, 1) -> 1; told(1, 0) -> 2; told(1, 1) -> 1; told(1, 3) -> 3; clue(1, 0, 0, 1) -> 2
            clue(1, [1 2], 0, 1) -> 1
            make(1, 2, 1) -> 2; clue(2, [0 1], 0, 1) -> 1; clue(2, 2, 0, 1) -> 2; make(4, 4, 1) -> 3; told(3, 3) -> 6
            """);
        Talk.ofPicture("19: a RUN ends with its row", 1, "01/10").script("""
            told(0, 3) -> 4; clue(0, [0..3], 0, 1) -> 1; clue(0, [0..3], 1, 1) -> -1
            """);
        Talk.ofPicture("19: the whole CANVAS", 1, "1111111111/".repeat(10)).script("""
            told(0, 3) -> 20; clue(0, [0..19], 0, 1) -> 10; clue(0, [0 19], 1, 0) -> -1
            """);
        Talk.ofPicture("19: RUNS of two COLOURS that touch, and of one that don't", 3, "1223012110").script("""
            told(0, 3) -> 14; clue(0, 0, 0, 1) -> 1; clue(0, 0, 1, 0) -> 2; clue(0, 0, 1, 1) -> 2; clue(0, 0, 2, 0) -> 3
            clue(0, 0, 3, 0) -> 1; clue(0, 0, 4, 0) -> 2; clue(0, 0, 5, 0) -> 1; clue(0, 0, 5, 1) -> 2
            clue(0, 0, 6, 0) -> -1
            """);
        Talk.ofPicture("19: the CANVAS stays, and the puzzle stays when it is painted", 1, "11").script("""
            paint(0, 0, 0) -> 1; clue(0, 0, 0, 1) -> 2; make(2, 1, 1) -> 1; clue(1, 0, 0, 1) -> 1; make(2, 1, 1) -> 2
            clue(2, 0, 0, 1) -> 1
            """);
        Talk.ofPicture("19: A puzzle comes, whose DESK is FULL, and RUNS may come to it", 2, "100").script("""
            set(0, [0..2]) -> 7; told(0, 4) -> 0; run(0, 0, 1, 2) -> -1; run(0, 0, 2, 2) -> 2; run(0, 0, 1, 1) -> -1
            """);
    }

    private static void refusedMake() {
        Talk.edge("19: NONE as of puzzle() (WIDTH)", """
            make([0 11 -1 MAX MIN], [1 10], [1 3]) -> -1; count(0) -> 0; make(10, 1, 1) -> 0
            """);
        Talk.edge("19: NONE as of puzzle() (HEIGHT)", """
            make([1 10], [0 11 -1 MAX MIN], [1 3]) -> -1; count(0) -> 0; make(1, 10, 1) -> 0
            """);
        Talk.edge("19: NONE as of puzzle() (COLOURS)", """
            make([1 10], [1 10], [0 4 -1 MAX MIN]) -> -1; count(0) -> 0; make(1, 1, 3) -> 0
            """);
        Talk.edge("19: NONE if one of these cells has more than colours", """
            paint(2, 1, 2); make(3, 2, 1) -> -1; count(0) -> 0; make(3, 2, 2) -> 0; make(3, 1, 1) -> 1
            make(2, 2, 1) -> 2
            paint(9, 9, 3); make(10, 10, 2) -> -1; count(0) -> 3; make(9, 10, 2) -> 3; make(10, 9, 2) -> 4
            make(10, 10, 3) -> 5
            paint(0, 0, 3); make(1, 1, [1 2]) -> -1; make(1, 1, 3) -> 6
            """);
    }

    private static void turn() {
        Talk.ofPicture("20: A puzzle comes that is puzzle p TURNED: its number", 3, "120/300").script("""
            turn(0, [0 0]); count(0) -> 3; turn(0, 4) -> 3; told(3, 0) -> 2; told(3, 1) -> 3; told(3, 2) -> 3
            told([1 2], 0) -> 3; told([0..3], 3) -> 6; told(0, 0) -> 3; told(0, 1) -> 2
            """);
        Talk.edge("20: the longest and the smallest puzzles", """
            puzzle(10, 1, 1); run(0, 0, 1, 10); run(0, 1, 1, 1); turn(0, 7) -> 1; told(1, 0) -> 1; told(1, 1) -> 10
            clue(1, 10, 0, 1) -> 10; clue(1, 9, 0, 1) -> 1; clue(1, 0, 0, 1) -> -1; clue(0, 1, 0, 1) -> 1
            puzzle(1, 1, 3); run(2, 1, 3, 1); turn(2, 4) -> 3; clue(3, 0, 0, 0) -> 3; clue(3, 1, 0, 0) -> -1
            """);
        Talk.ofPicture("20: the DESK and the GAMES aren't turned", 1, "10/00").script("""
            choose(0, 0, 1); game(0); turn(0, 0) -> 1; told(1, 4) -> 0; run(1, 1, 1, 1) -> 1; told(0, 4) -> 1
            count(1) -> 1
            """);
    }

    /** The picture 120 over 300, turned each way by hand: mirrored, then upside down, then rows and columns exchanged. */
    private static void eachTurn() {
        String[] turned = {"120/300", "021/003", "300/120", "003/021", "13/20/00", "00/20/13", "31/02/00", "00/02/31"};
        for (int how = 0; how < 8; how++) {
            Talk talk = Talk.ofPicture("Terms 3: To TURN by " + how, 3, "120/300");
            talk.due("turn(0, " + how + ")", 1).due("same(0, 1)", how);
            talk.make(3, turned[how]);
            talk.due("same(1, 2)", 0).due("same(0, 2)", how);
        }
    }

    private static void refusedTurn() {
        Talk.edge("20: NONE if there is no such p", """
            turn([0 -1 MAX MIN], [0 7]) -> -1; puzzle(2, 2, 1); turn([1 -1 30 MAX MIN], [0 7]) -> -1; count(0) -> 1
            """);
        Talk.edge("20: NONE if there is no such how", """
            puzzle(2, 2, 1); turn(0, [8 9 15 16 -1 -8 256 MAX MIN]) -> -1; count(0) -> 1; turn(0, 0) -> 1
            turn(0, 7) -> 2
            """);
    }

    private static void same() {
        Talk.ofPicture("21: The least how: a puzzle that is its own mirror", 1, "101/010/000").script("""
            turn(0, 1) -> 1; turn(0, 3) -> 2; turn(0, 5) -> 3; turn(0, 7) -> 4
            same(0, [0 1]) -> 0; same(0, 2) -> 2; same(0, 3) -> 4; same(0, 4) -> 6
            """);
        Talk.edge("21: The least how: 0, if each one will do", """
            puzzle(3, 3, 1); turn(0, 7) -> 1; same(0, [0 1]) -> 0; same(1, 0) -> 0; puzzle(1, 1, 1); same(2, 2) -> 0
            """);
        Talk.ofPicture("21: TURNED by which puzzle p has the CLUES of q (not q those of p)", 3, "120/300").script("""
            turn(0, 5) -> 1; turn(0, 6) -> 2; same(0, 1) -> 5; same(1, 0) -> 6; same(0, 2) -> 6; same(2, 0) -> 5
            same(1, 2) -> 3; same(2, 1) -> 3
            """);
        Talk.ofPicture("21: neither DESKS nor GAMES count, nor PICTURES", 1, "10/01").script("""
            choose(0, 0, 1); game(0); puzzle(2, 2, 1); run(1, [0..3], 1, 1); same(0, 1) -> 0; same(1, 0) -> 0
            count(0) -> 2
            """);
    }

    private static void sameIsNone() {
        Talk.edge("21: NONE if there is none (WIDTH, HEIGHT)", """
            puzzle(2, 3, 1); puzzle(2, 2, 1); puzzle(3, 3, 1); puzzle(3, 2, 1); puzzle(6, 1, 1); same(0, [1 2 4]) -> -1
            same(0, 3) -> 4; same(3, 0) -> 4
            """);
        Talk.edge("21: NONE if there is none (number of COLOURS)", """
            puzzle(2, 2, 1); puzzle(2, 2, 2); same(0, 1) -> -1; same(1, 0) -> -1
            """);
        Talk.edge("21: NONE if there is none (a RUN more)", """
            puzzle(3, 3, 1); puzzle(3, 3, 1); run([0 1], 0, 1, 1); same(0, 1) -> 0; run(1, 0, 1, 1); same(0, 1) -> -1
            same(1, 0) -> -1
            """);
        Talk.edge("21: NONE if there is none (a LENGTH, a COLOUR, an order)", """
            puzzle(5, 5, 2); puzzle(5, 5, 2); puzzle(5, 5, 2); run(0, 1, 1, 2); run(1, 1, 1, 1); run(2, 1, 2, 2)
            same(0, [1 2]) -> -1; run(0, 1, 2, 1); run(1, 1, 2, 2); same(0, 1) -> -1; run(2, 1, 1, 1); same(0, 2) -> -1
            """);
        Talk.edge("21: NONE if there is no such puzzle", """
            same(0, 0) -> -1; puzzle(2, 2, 1); same([1 -1 30 MAX MIN], 0) -> -1; same(0, [1 -1 30 MAX MIN]) -> -1
            same([1 -1 MAX MIN], [1 -1 MAX MIN]) -> -1; same(0, 0) -> 0
            """);
    }
}
