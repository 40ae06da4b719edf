import java.util.ArrayList;
import java.util.List;

/**
 * "What is refused changes nothing." For each call that can be refused: an object on which it was refused answers all
 * that it is asked then, calls that change something among it, just as one that never heard of it.
 */
public final class RefusedTest {
    /** Three puzzles with desks in use, two games with marks that were taken back, a search, a grade, OUT, a canvas. */
    private static final String BUSY = """
        paint(0, 0, 1); paint(1, 0, 2); paint(2, 1, 1); paint(9, 0, 3); paint(0, 9, 3); paint(9, 9, 3)
        make(3, 2, 2) -> 0; bar(0, 0, 0) -> 1; choose(0, 5, 0) -> 1; puzzle(2, 2, 1) -> 1; run(1, [0..3], 1, 1) -> 1
        puzzle(2, 1, 1) -> 2; run(2, 0, 1, 1) -> 1; bar(2, 1, 1) -> 1
        grade(1) -> 3; search(1, 1, 5) -> -2; bar(1, 0, 1) -> 1; write(0, 0) -> 5
        game(0) -> 0; game(1) -> 1; mark(0, 0, 1); mark(0, 1, 0); mark(0, 1, 2); mark(0, 5, 1); undo(0) -> 5; undo(0) -> 1
        mark(1, 0, 1); mark(1, 0, 0); hint(1) -> 5; undo(1) -> 0; undo(1) -> 0
        """;
    private static final String LOOKS = """
        count([0 1]); found([-1 -2]); picture([0..4], [0 3]); probes(); out([0..6]); same([0..2], [0..2])
        told([0..3], [0..4]); clue(0, [0..4], [0 1], [0 1]); clue(1, [0..3], [0 1], 1); clue(2, [0..2], [0 1], 1)
        set(0, [0..5]); set([1 2], [0..3]); ways(0, [0..4]); ways([1 2], [0..3])
        state([0..2], [0..6]); marked([0 1], [0..5])
        """;
    private static final String CHANGES = """
        redo([0 1 0 1 0 1]); undo([0 1 0 0 0 1 1]); hint([0 1]); mark(0, 0, 1); mark(1, 0, 1); state([0 1], [4 5 6])
        step(0, 0); settle([0..2]); told([0..2], 4); run(2, 0, 1, 1); run(2, 1, 1, 1); search(1, 200, 5); grade(1); probes()
        make(10, 10, 3); clue(3, [0 1 9 10 11 12 19], [0 1 2], 0); game(0); turn(0, 4); count([0 1]); write(0, 4); out([0..2])
        """;

    /** Calls that are refused on the busy object, and what they answer. */
    private static final String REFUSED = """
        puzzle([0 11 -1 MAX MIN], 2, 1) -> -1
        puzzle(2, [0 11 -1 MAX MIN], 1) -> -1
        puzzle(2, 2, [0 4 -1 MAX MIN]) -> -1
        run([3 -1 MAX MIN], 0, 1, 1) -> -1
        run(2, [3 -1 MAX MIN], 1, 1) -> -1
        run(2, 1, [0 2 -1 MAX MIN], 1) -> -1
        run(2, 1, 1, [0 2 -1 MAX MIN]) -> -1
        run(2, 0, 1, 1) -> -1
        run([0 1], 1, 1, 1) -> -1
        told([3 -1 MAX MIN], 0) -> -1
        told(0, [5 -1 MAX MIN]) -> -1
        clue([3 -1 MAX MIN], 0, 0, 0) -> -1
        clue(0, [0 5 -1 MAX MIN], [2 -1 MAX MIN], 0) -> -1
        clue(0, 0, 0, [2 -1 MAX MIN]) -> -1
        fresh([3 -1 MAX MIN]) -> 0
        choose([3 -1 MAX MIN], 0, 1) -> 0
        choose(0, [6 -1 MAX MIN], 1) -> 0
        choose(0, 0, [0 3 -1 32 MAX MIN]) -> 0
        bar([3 -1 MAX MIN], 0, 1) -> 0
        bar(0, [6 -1 MAX MIN], 1) -> 0
        bar(0, 0, [0 3 -1 32 MAX MIN]) -> 0
        bar(0, 5, [0 1 2]) -> 0
        set([3 -1 MAX MIN], 0) -> 0
        set(0, [6 -1 MAX MIN]) -> 0
        step([3 -1 MAX MIN], 0) -> -1
        step(0, [5 -1 MAX MIN]) -> -1
        ways([3 -1 MAX MIN], 0) -> -1
        ways(0, [5 -1 MAX MIN]) -> -1
        settle([3 -1 MAX MIN]) -> -1
        search([3 -1 MAX MIN], 200, 5) -> -1
        search(1, [201 -1 MAX MIN], 5) -> -1
        search(1, 200, [0 6 -1 MAX MIN]) -> -1
        found([0 1 -3 MAX MIN]) -> -1
        picture([1 -1 MAX MIN], 0) -> -1
        picture(0, [4 -1 MAX MIN]) -> -1
        grade([3 -1 MAX MIN]) -> -1
        paint([10 -1 MAX MIN], 0, 1) -> 0
        paint(0, [10 -1 MAX MIN], 1) -> 0
        paint(0, 0, [4 -1 MAX MIN]) -> 0
        make([0 11 -1 MAX MIN], 2, 2) -> -1
        make(3, [0 11 -1 MAX MIN], 2) -> -1
        make(3, 2, [0 1 4 -1 MAX MIN]) -> -1
        make(10, 10, [1 2]) -> -1
        turn([3 -1 MAX MIN], 0) -> -1
        turn(0, [8 -1 MAX MIN]) -> -1
        same(0, [3 -1 MAX MIN]) -> -1
        same([3 -1 MAX MIN], 0) -> -1
        game([3 -1 MAX MIN]) -> -1
        mark([2 -1 MAX MIN], 0, 0) -> 0
        mark(0, [6 -1 MAX MIN], 0) -> 0
        mark(0, 2, [3 -2 MAX MIN]) -> 0
        mark(0, [2..5], -1) -> 0
        mark(0, 0, 1) -> 0
        marked([2 -1 MAX MIN], 0) -> -1
        marked(0, [6 -1 MAX MIN]) -> -1
        undo([2 -1 MAX MIN]) -> -1
        undo(1) -> -1
        redo([2 -1 MAX MIN]) -> -1
        hint(1) -> -1
        hint([2 -1 MAX MIN]) -> -1
        state([2 -1 MAX MIN], 0) -> -1
        state(0, [7 -1 MAX MIN]) -> -1
        write([3 -1 MAX MIN], 0) -> -1
        write(0, [5 -1 MAX MIN]) -> -1
        out([5 -1 MAX MIN]) -> -1
        count([2 -1 MAX MIN]) -> -1
        """;
    /** Calls that are not refused there, but tell what is so or ask for what is so already. */
    private static final String TOLD = """
        told(0, 3) -> 6
        clue(0, 0, 1, 0) -> 2
        set(0, 0) -> 6
        ways(0, 0) -> 2
        found(-1) -> 1
        picture(0, 0) -> 0
        probes() -> 8
        same(0, 0) -> 0
        marked(0, 0) -> 1
        state(0, 4) -> 2
        state(1, 2) -> 0
        state(0, 3) -> 0
        out(0) -> 49
        count(0) -> 3
        grade(1) -> 3
        paint(0, 0, 1) -> 1
        choose(0, 5, 0) -> 1
        write(0, 0) -> 5
        """;

    public static void main(String[] args) {
        onABusyObject(REFUSED);
        onABusyObject(TOLD);
        whenThirtyPuzzlesCame();
        whenTwentyGamesCame();
        whenTwoHundredChangesCame();
        brokenDesks();
        Check.end("RefusedTest");
    }

    private static List<Long> answers(Talk talk, String calls) {
        List<Long> answers = new ArrayList<>();
        for (String part : calls.split("[;\n]")) {
            for (String call : part.isBlank() ? List.<String>of() : Talk.spread(part.strip())) {
                answers.add(talk.say(call));
            }
        }
        return answers;
    }

    private static void changesNothing(String before, String refused, long answer, String after) {
        List<Long> want = answers(Talk.edge("ahead of " + refused, before), after);
        for (String call : Talk.spread(refused)) {
            Talk talk = Talk.edge("ahead of " + call, before).due(call, answer).due(call, answer);
            List<Long> got = answers(talk, after);
            Check.holds("What is refused changes nothing: " + call + "\n  due are " + want + "\n  but got " + got,
                got.equals(want));
        }
    }

    private static void onABusyObject(String calls) {
        for (String row : calls.split("\n")) {
            String[] sides = row.strip().split(" -> ");
            changesNothing(BUSY, sides[0], Long.parseLong(sides[1]), LOOKS + CHANGES);
        }
    }

    private static void whenThirtyPuzzlesCame() {
        String thirty = BUSY + "puzzle(1, 1, 1);".repeat(27);
        for (String call : new String[] {"puzzle(1, 1, 1)", "make(3, 2, 2)", "turn(0, [0 7])"}) {
            changesNothing(thirty, call, -1, LOOKS + "told([29 30], 0)");
        }
    }

    private static void whenTwentyGamesCame() {
        changesNothing(BUSY + "game(0);".repeat(18), "game([0 1 2])", -1, LOOKS + "state([19 20], 0); run(2, 1, 1, 1)");
    }

    private static void whenTwoHundredChangesCame() {
        String full = "puzzle(2, 1, 1); game(0);" + "mark(0, 0, 1); mark(0, 0, 0);".repeat(100);
        changesNothing(full, "mark(0, [0 1], 1)", 0, "state(0, [0..6]); marked(0, [0 1]); undo([0 0]); redo([0 0 0]); state(0, [4 5])");
        changesNothing(full, "redo(0)", -1, "state(0, [0..6]); marked(0, [0 1]); undo([0 0]); redo([0 0 0]); state(0, [4 5])");
    }

    private static void brokenDesks() {
        String broken = BUSY + "choose(0, 0, 2); choose(0, 3, 1);";
        changesNothing(broken, "step(0, [0 2])", -2, LOOKS + CHANGES);
        changesNothing(broken, "settle(0)", -2, LOOKS + CHANGES);
        changesNothing(broken, "ways(0, [0 2])", 0, LOOKS + CHANGES);
    }
}
