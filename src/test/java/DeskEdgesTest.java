/** The sentences of promises 6 to 12 (and of "Terms", 2) that name a boundary case, each with a test of its own. */
public final class DeskEdgesTest {
    public static void main(String[] args) {
        fresh();
        choose();
        bar();
        set();
        step();
        brokenStep();
        ways();
        settle();
        orderOfRounds();
        brokenSettle();
        Check.end("DeskEdgesTest");
    }

    private static void fresh() {
        Talk.edge("6: A puzzle's DESK is FULL: true", """
            puzzle(2, 2, 3); puzzle(2, 2, 1); choose(0, 0, 3); bar(0, 3, 0); choose(1, 0, 0)
            fresh(0) -> 1; set(0, [0..3]) -> 15; set(1, 0) -> 1; fresh(0) -> 1; set(0, [0..3]) -> 15
            """);
        Talk.edge("6: also when a GAME was begun, and after settle()", """
            puzzle(2, 2, 1); settle(0) -> 1; told(0, 4) -> 4; game(0); fresh(0) -> 1; told(0, 4) -> 0; set(0, 3) -> 3
            """);
        Talk.edge("6: the CLUES stay", "puzzle(2, 2, 1); run(0, 0, 1, 2); fresh(0) -> 1; told(0, 3) -> 1");
        Talk.edge("6: false if there is none such", """
            fresh([0 -1 MAX MIN]) -> 0; puzzle(1, 1, 1); choose(0, 0, 0); fresh([1 -1 30 MAX MIN]) -> 0; set(0, 0) -> 1
            """);
    }

    private static void choose() {
        Talk.edge("7: A cell's SET on a DESK becomes one of these alone: true", """
            puzzle(2, 3, 3); puzzle(2, 3, 3); choose(0, 0, 0) -> 1; choose(0, 5, 3) -> 1; choose(0, 2, 1) -> 1
            set(0, 0) -> 1; set(0, 5) -> 8; set(0, 2) -> 2; set(0, [1 3 4]) -> 15; set(1, [0..5]) -> 15
            """);
        Talk.edge("7: the only one of a SET can be chosen again", """
            puzzle(1, 1, 1); choose(0, 0, [1 1 1]) -> 1; set(0, 0) -> 2
            """);
        Talk.edge("7: false if there is no such puzzle", """
            choose([0 -1 MAX MIN], 0, 0) -> 0; puzzle(1, 1, 1); choose([1 -1 30 MAX MIN], 0, [0 1]) -> 0; set(0, 0) -> 3
            """);
        Talk.edge("7: false if there is no such cell", """
            puzzle(2, 3, 1); choose(0, [6 7 -1 100 MAX MIN], [0 1]) -> 0; set(0, [0..5]) -> 3
            """);
        Talk.edge("7: false if it isn't in the SET", """
            puzzle(1, 1, 2); bar(0, 0, 1); choose(0, 0, 1) -> 0; set(0, 0) -> 5; choose(0, 0, 2) -> 1
            choose(0, 0, [0 1]) -> 0; set(0, 0) -> 4
            """);
        Talk.edge("7: a colour that there is not isn't in the SET", """
            puzzle(1, 1, 1); puzzle(1, 1, 2); puzzle(1, 1, 3); choose(0, 0, [2 3]) -> 0; choose(1, 0, 3) -> 0
            choose([0..2], 0, [4 5 -1 -2 31 32 33 64 256 -31 -32 MAX MIN]) -> 0
            set(0, 0) -> 3; set(1, 0) -> 7; set(2, 0) -> 15
            """);
    }

    private static void bar() {
        Talk.edge("8: One goes from a cell's SET on a DESK: true", """
            puzzle(2, 3, 3); puzzle(2, 3, 3); bar(0, 0, 0) -> 1; bar(0, 5, 3) -> 1; set(0, 0) -> 14; set(0, 5) -> 7
            set(0, [1..4]) -> 15; set(1, [0..5]) -> 15
            """);
        Talk.edge("8: false if there is no such puzzle", """
            bar([0 -1 MAX MIN], 0, 0) -> 0; puzzle(1, 1, 1); bar([1 -1 30 MAX MIN], 0, [0 1]) -> 0; set(0, 0) -> 3
            """);
        Talk.edge("8: false if there is no such cell", """
            puzzle(2, 3, 1); bar(0, [6 7 -1 100 MAX MIN], [0 1]) -> 0; set(0, [0..5]) -> 3
            """);
        Talk.edge("8: false if it isn't in the SET", """
            puzzle(1, 1, 3); bar(0, 0, 2) -> 1; bar(0, 0, 2) -> 0; set(0, 0) -> 11; choose(0, 0, 3)
            bar(0, 0, [0 1 2]) -> 0
            set(0, 0) -> 8
            """);
        Talk.edge("8: a colour that there is not isn't in the SET", """
            puzzle(1, 1, 1); puzzle(1, 1, 2); puzzle(1, 1, 3); bar(0, 0, [2 3]) -> 0; bar(1, 0, 3) -> 0
            bar([0..2], 0, [4 5 -1 -2 31 32 33 64 256 -31 -32 MAX MIN]) -> 0
            set(0, 0) -> 3; set(1, 0) -> 7; set(2, 0) -> 15
            """);
        Talk.edge("8: false if it is the only one", """
            puzzle(1, 2, 3); bar(0, 0, [0 1 2]) -> 1; bar(0, 0, 3) -> 0; set(0, 0) -> 8
            bar(0, 1, [3 2 1]) -> 1; bar(0, 1, 0) -> 0; set(0, 1) -> 1
            """);
    }

    private static void set() {
        Talk.edge("9: the sum of 1, 2, 4, 8 for 0, 1, 2, 3", """
            puzzle(4, 1, 3); choose(0, 0, 0); choose(0, 1, 1); choose(0, 2, 2); choose(0, 3, 3)
            set(0, 0) -> 1; set(0, 1) -> 2; set(0, 2) -> 4; set(0, 3) -> 8; fresh(0); bar(0, 0, [0 2]); set(0, 0) -> 10
            """);
        Talk.edge("9: 0 if there is no such puzzle", """
            set([0 -1 MAX MIN], 0) -> 0; puzzle(1, 1, 1); set([1 -1 30 MAX MIN], 0) -> 0
            """);
        Talk.edge("9: 0 if there is no such cell", """
            puzzle(3, 2, 1); set(0, [6 7 -1 100 MAX MIN]) -> 0; set(0, [0 5]) -> 3; puzzle(10, 10, 3); set(1, 99) -> 15
            set(1, [100 101 -1]) -> 0
            """);
    }

    private static void step() {
        Talk.edge("10: how many went from SETS", """
            puzzle(3, 2, 3); step(0, 0) -> 9; step(0, 0) -> 0; set(0, [0..2]) -> 1; set(0, [3..5]) -> 15
            step(0, 4) -> 3; set(0, 5) -> 1; set(0, [3 4]) -> 15
            """);
        Talk.ofClues("Terms 2: each of its cells keeps those of its SET that it has in some FILLING that FITS", 7, 1, 1,
            "1a 2a").script("""
            choose(0, 3, 0); bar(0, 1, 1); ways(0, 0) -> 4; step(0, 0) -> 1
            set(0, [0 2 4 6]) -> 3; set(0, [1 3]) -> 1; set(0, 5) -> 2
            """);
        Talk.ofClues("Terms 2: a STEP gives nothing back", 3, 1, 2, "1a").script("""
            bar(0, 0, 1); step(0, 0) -> 3; set(0, 0) -> 1; set(0, [1 2]) -> 3; step(0, 0) -> 0
            """);
        Talk.ofClues("10: the longest LINE, as full as it can be", 10, 10, 3,
            "1a 1b 1c 1a 1b 1c 1a 1b 1c 1a/0/0/0/0/0/0/0/0/0/0/0/0/0/0/0/0/0/0/1a 1a 1a 1a 1a").script("""
            step(0, 0) -> 30; set(0, [0 3 6 9]) -> 2; set(0, [1 4 7]) -> 4; set(0, [2 5 8]) -> 8
            step(0, 19) -> 19; set(0, 99) -> 3; set(0, 19) -> 1; fresh(0); step(0, 19) -> 20; set(0, [9 19 89 99]) -> 3
            """);
        Talk.edge("10: NONE if there is no such puzzle", """
            step([0 -1 MAX MIN], 0) -> -1; puzzle(2, 2, 1); step([1 -1 30 MAX MIN], 0) -> -1; told(0, 4) -> 0
            """);
        Talk.edge("10: NONE if there is no such LINE", """
            puzzle(4, 3, 1); step(0, [7 8 -1 20 MAX MIN]) -> -1; told(0, 4) -> 0; step(0, [0 1 2]) -> 4
            step(0, [3..6]) -> 0
            """);
    }

    private static void brokenStep() {
        Talk.ofClues("10: -2, and nothing goes, if it is BROKEN", 4, 1, 2, "2a 1b").script("""
            choose(0, 1, 0); step(0, 0) -> -2; set(0, [0 2 3]) -> 7; set(0, 1) -> 1; step(0, 0) -> -2
            fresh(0); step(0, 0) -> 4
            """);
        Talk.ofClues("10: BROKEN by its last cell alone", 4, 1, 1, "1a").script("""
            choose(0, 0, 1); choose(0, 3, 1); step(0, 0) -> -2; set(0, [1 2]) -> 3; set(0, [0 3]) -> 2
            """);
        Talk.ofClues("10: BROKEN, since two stretches of one COLOUR would be one", 3, 1, 1, "1a 1a").script("""
            choose(0, 1, 1); step(0, 0) -> -2; set(0, [0 2]) -> 3
            """);
        Talk.edge("10: a LINE without RUNS is BROKEN by a cell that can't be BLANK", """
            puzzle(3, 1, 1); bar(0, 2, 0); step(0, 0) -> -2; set(0, [0 1]) -> 3; step(0, [1 2]) -> 1; step(0, 3) -> -2
            """);
    }

    private static void ways() {
        Talk.edge("11: How many FILLINGS of a LINE FIT: one of a LINE without RUNS", """
            puzzle(10, 1, 3); ways(0, [0..10]) -> 1
            """);
        Talk.ofClues("11: by the SETS on a DESK", 5, 1, 2, "1a 1b").script("""
            ways(0, 0) -> 10; bar(0, 0, 1); ways(0, 0) -> 6; choose(0, 4, 2); ways(0, 0) -> 3; choose(0, 3, 1)
            ways(0, 0) -> 1; choose(0, 2, 1); ways(0, 0) -> 0; fresh(0); ways(0, 0) -> 10
            """);
        Talk.ofClues("11: the most that a LINE can have", 10, 1, 2, "1a 1b 1a 1b 1a").script("ways(0, 0) -> 252");
        Talk.ofClues("11: one alone, if the RUNS fill the LINE", 10, 3, 3, "10a/1a 1a 1a 1a 2a/1a 1b 1c 1a 1b 1c 1a 1b 1c 1a")
            .script("ways(0, [0 1 2]) -> 1; choose(0, [9 19 29], 1) -> 1; ways(0, [0 1 2]) -> 1");
        Talk.edge("11: none of a BROKEN LINE, which takes nothing", """
            puzzle(2, 1, 1); choose(0, 1, 1); ways(0, 0) -> 0; ways(0, 1) -> 1; ways(0, 2) -> 0; set(0, 0) -> 3
            set(0, 1) -> 2
            """);
        Talk.edge("11: NONE if there is no such puzzle", """
            ways([0 -1 MAX MIN], 0) -> -1; puzzle(2, 2, 1); ways([1 -1 30 MAX MIN], 0) -> -1
            """);
        Talk.edge("11: NONE if there is no such LINE", """
            puzzle(4, 3, 1); ways(0, [7 8 -1 20 MAX MIN]) -> -1; ways(0, 6) -> 1
            """);
    }

    private static void settle() {
        Talk.edge("12: how many ROUNDS took something: the last one, which took nothing, isn't one", """
            puzzle(1, 1, 1); settle(0) -> 1; settle(0) -> 0; fresh(0); settle(0) -> 1
            """);
        Talk.ofClues("12: 0 if no ROUND took something", 2, 2, 1, "1a/1a/1a/1a").script("""
            settle(0) -> 0; set(0, [0..3]) -> 3; choose(0, 0, 1); settle(0) -> 1; set(0, [0 3]) -> 2; set(0, [1 2]) -> 1
            """);
        Talk.edge("12: NONE if there is no such puzzle", """
            settle([0 -1 MAX MIN]) -> -1; puzzle(2, 2, 1); settle([1 -1 30 MAX MIN]) -> -1; told(0, 4) -> 0
            """);
        Talk.edge("12: only that puzzle's DESK", """
            puzzle(2, 2, 1); puzzle(2, 2, 1); settle(1) -> 1; told(0, 4) -> 0; told(1, 4) -> 4
            """);
    }

    /** Rows by what columns left a round ago, columns by what rows left in the same round. */
    private static void orderOfRounds() {
        String[] pictures = {"00/10", "101/210", "100/210", "01/12/10/01", "1201/0110", "100/011/210/201"};
        int[] rounds = {1, 1, 2, 2, 3, 3};
        for (int i = 0; i < pictures.length; i++) {
            Talk.ofPicture("Terms 2: by their numbers, each by what the ones ahead of it left", 2, pictures[i])
                .due("settle(0)", rounds[i]).due("settle(0)", 0);
        }
        Talk.ofPicture("Terms 2: ROUNDS, as long as a ROUND took something", 1, "1000/0110/0111/1010").script("""
            settle(0) -> 5; told(0, 4) -> 16; set(0, [0 5 6 9 10 11 12 14]) -> 2; set(0, [1..4 7 8 13 15]) -> 1
            """);
    }

    private static void brokenSettle() {
        Talk.ofClues("12: -2, and the SETS stay as they were, if they are BROKEN (in the first ROUND)", 2, 2, 1, "0/0/0/1a")
            .script("settle(0) -> -2; set(0, [0..3]) -> 3; bar(0, 0, 1); settle(0) -> -2; set(0, 0) -> 1; set(0, [1..3]) -> 3");
        Talk.ofClues("12: BROKEN by the first LINE in the second ROUND", 2, 2, 1, "1a/0/0/0")
            .script("settle(0) -> -2; set(0, [0..3]) -> 3; step(0, 0) -> 0; step(0, 2) -> 2; step(0, 3) -> 2; step(0, 0) -> -2");
        Talk.ofClues("12: BROKEN by the last LINE in the second ROUND", 2, 2, 1, "1a/1a/0/1a")
            .script("settle(0) -> -2; set(0, [0..3]) -> 3; told(0, 4) -> 0");
        Talk.ofClues("12: BROKEN in the fifth ROUND", 4, 4, 1, "2a/2a/1a/1a/1a/2a/3a/1a")
            .script("settle(0) -> -2; set(0, [0..15]) -> 3; bar(0, 15, 1) -> 1; settle(0) -> -2; set(0, [0..14]) -> 3; set(0, 15) -> 1");
        Talk.edge("12: BROKEN by what was chosen, FULL SETS settle again", """
            puzzle(1, 2, 2); choose(0, 1, 2); settle(0) -> -2; set(0, 0) -> 7; set(0, 1) -> 4; fresh(0); settle(0) -> 1
            """);
    }
}
