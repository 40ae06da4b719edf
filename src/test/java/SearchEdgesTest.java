/** The sentences of promises 13 to 17 (and of "Terms", 2) that name a boundary case, each with a test of its own. */
public final class SearchEdgesTest {
    // Clues and pictures that were looked for till their tries or probes were just as many as may be, or a few more.
    private static final String NO_PICTURE_AFTER_200_TRIES = "1a/1a 1a 1a/1a 1a/1a 1a/1a/1a/2a/1a/1a/1a/1a/1a";
    private static final String NO_PICTURE_AFTER_202_TRIES = "1a/1a 1a/1a/1a/1a/1a/0/2a/1a/1a/2a/1a/1a";
    private static final String FIVE_AFTER_200_TRIES =
        "1000001/0100100/0101000/0100001/1000000/0011000/1000000/1000100/1000000/0101010";
    private static final String FIVE_AFTER_201_TRIES =
        "10001000/01000010/01010011/00100001/00000000/00000011/01010100";
    private static final String GRADE_0_AFTER_400_PROBES =
        "2a 2a/1a/3a/1a 1a/1a/1a 2a 2a/1a 3a/1a/2a/1a 1a/1a 1a/1a 1a/2a/1a 1a 1a/1a 1a/1a 1a/1a";
    private static final String GRADE_0_AFTER_401_PROBES =
        "1a 1a/1a 1a/1a/1a/3a/2a 1a/2a 1a 1a/1a/1a/1a 2a/2a/1a 1a/3a/3a/1a/1a 1a 1a";
    private static final String GRADE_2_AFTER_412_PROBES =
        "1a 2a/4a 1a/1a 1a/1a 2a/1a/1a 2a 1a/1a 1a 1a 1a/1a 1a 3a/2a 1a/2a 1a/"
        + "3a 1a/1a 3a/2a 1a/2a 1a 1a/1a 2a 2a/3a 1a/1a 1a/4a/1a/2a";
    private static final String GRADE_3_AFTER_400_PROBES =
        "010001010/100001000/110010000/000010001/011100000/000000100/101000101";
    private static final String GRADE_3_AFTER_401_PROBES =
        "1001101000/0100011000/0100000010/0011100101/1011100011/0000010000";

    public static void main(String[] args) {
        limits();
        noTries();
        twoHundredTries();
        outOfTries();
        orderOfTries();
        deskStays();
        refusedSearches();
        found();
        picture();
        grades();
        fourHundredProbes();
        probes();
        Check.end("SearchEdgesTest");
    }

    private static Talk two(String sentence) {
        return Talk.ofClues(sentence, 2, 2, 1, "1a/1a/1a/1a");
    }

    private static Talk six(String sentence) {
        return Talk.ofClues(sentence, 3, 3, 1, "1a/1a/1a/1a/1a/1a");
    }

    private static void limits() {
        six("13: or as many PICTURES as limit (1 .. 5) are found").script("""
            search(0, 200, 1) -> 1; found(-1) -> 1; found(-2) -> 3; picture(0, 2) -> 1; picture(1, 0) -> -1
            search(0, 200, 4) -> 4; found(-1) -> 4; found(-2) -> 7; picture(3, 8) -> 1; picture(4, 0) -> -1
            search(0, 200, 5) -> 5; found(-1) -> 5; found(-2) -> 9; picture(4, 0) -> 1; picture(5, 0) -> -1
            """);
        Talk.ofPicture("13: till it is through (four PICTURES, limit 5)", 2, "0102/1020").script("""
            search(0, 200, 5) -> 4; found(-1) -> 4; found(-2) -> 6; picture(3, 0) -> 1; picture(4, 0) -> -1
            search(0, 200, 4) -> 4; found(-2) -> 6
            """);
        two("13: the limit comes with the last PICTURE").script("""
            search(0, 200, 2) -> 2; found(-2) -> 2; search(0, 200, 1) -> 1; found(-2) -> 1
            """);
        Talk.edge("13: limit 1 and 5, where one PICTURE is all", """
            puzzle(1, 1, 1); search(0, 0, 1) -> 1; found(-1) -> 1; search(0, 200, 5) -> 1; found(-1) -> 1
            found(-2) -> 0
            """);
    }

    private static void noTries() {
        Talk.edge("Terms 2: Each SET having one: that is a PICTURE that is found, without a TRY", """
            puzzle(2, 1, 1); run(0, 0, 1, 1); run(0, 1, 1, 1); search(0, 0, 1) -> 1; found(-2) -> 0; picture(0, 0) -> 1
            picture(0, 1) -> 0
            """);
        Talk.ofClues("Terms 2: BROKEN: there is nothing, without a TRY", 2, 2, 1, "0/0/0/1a").script("""
            search(0, 0, 1) -> 0; found(-1) -> 0; found(-2) -> 0; picture(0, 0) -> -1
            """);
        two("13: tries 0, and a TRY would be").script("""
            search(0, 0, 1) -> -2; found(-1) -> 0; found(-2) -> 0; picture(0, 0) -> -1; search(0, 0, 5) -> -2
            """);
    }

    private static void twoHundredTries() {
        Talk.ofClues("13: through with the 200th TRY", 8, 4, 1, NO_PICTURE_AFTER_200_TRIES).script("""
            search(0, 200, 1) -> 0; found(-1) -> 0; found(-2) -> 200; search(0, 199, 1) -> -2; found(-2) -> 199
            """);
        Talk.ofClues("13: one more TRY than 200 would be", 6, 7, 1, NO_PICTURE_AFTER_202_TRIES).script("""
            search(0, 200, 1) -> -2; found(-1) -> 0; found(-2) -> 200
            """);
        Talk.ofPicture("13: the fifth PICTURE is found with the 200th TRY", 1, FIVE_AFTER_200_TRIES).script("""
            search(0, 200, 5) -> 5; found(-1) -> 5; found(-2) -> 200; search(0, 199, 5) -> -2; found(-1) -> 4
            """);
        Talk.ofPicture("13: the fifth PICTURE would be found with the 201st TRY", 1, FIVE_AFTER_201_TRIES).script("""
            search(0, 200, 5) -> -2; found(-1) -> 4; found(-2) -> 200; picture(4, 0) -> -1
            """);
    }

    private static void outOfTries() {
        two("13: -2 if it was out of TRIES").script("""
            search(0, 1, 5) -> -2; search(0, 2, 5) -> 2; search(0, 1, 2) -> -2; search(0, 1, 1) -> 1
            """);
        six("13: as many TRIES as there may be are no more than that").script("""
            search(0, 9, 5) -> 5; found(-2) -> 9; search(0, 8, 5) -> -2; found(-1) -> 4; found(-2) -> 8
            search(0, 3, 1) -> 1; found(-2) -> 3; search(0, 2, 1) -> -2; found(-1) -> 0; found(-2) -> 2
            """);
        Talk.ofPicture("Terms 2: a TRY that is BROKEN is one too", 1, "0110/1001").script("""
            search(0, 200, 5) -> 1; found(-2) -> 2; search(0, 2, 5) -> 1; search(0, 1, 5) -> -2
            """);
    }

    private static void orderOfTries() {
        two("Terms 2: for each of its SET, rising, there is a TRY").script("search(0, 200, 5) -> 2")
            .rowDue("picture(0, ", "0110").rowDue("picture(1, ", "1001");
        six("Terms 2: a TRY: a SEARCH by these SETS").script("search(0, 200, 5) -> 5")
            .rowDue("picture(0, ", "001010100").rowDue("picture(1, ", "001100010").rowDue("picture(2, ", "010001100")
            .rowDue("picture(3, ", "010100001").rowDue("picture(4, ", "100001010");
        Talk.ofPicture("Terms 2: the first one (by numbers)", 1, "0101/1010/1000").script("""
            search(0, 200, 5) -> 3; found(-2) -> 4
            """);
        Talk.ofPicture("Terms 2: of those that have the fewest", 3, "010/103/030").script("""
            search(0, 200, 5) -> 3; found(-2) -> 4
            """);
        // By hand: nine blank cells in row 0, eight in row 1, .. 45 in all; then as in the square of three by three.
        Talk.ofClues("Terms 2: TRIES within TRIES, 45 deep", 10, 10, 1, "1a/".repeat(20)).script("""
            search(0, 200, 5) -> 5; found(-2) -> 51; picture(0, [9 18 27 36 45 54 63 72 81 90]) -> 1
            search(0, 45, 1) -> 1; search(0, 44, 1) -> -2; found(-2) -> 44
            """);
    }

    private static void deskStays() {
        two("13: the SETS on a DESK (which stay)").script("""
            search(0, 200, 5) -> 2; set(0, [0..3]) -> 3; choose(0, 3, 1); search(0, 0, 5) -> 1; picture(0, 0) -> 1
            set(0, [0..2]) -> 3; set(0, 3) -> 2; search(0, 0, 1) -> 1; told(0, 4) -> 1
            """);
        two("13: A SEARCH by the SETS on a DESK that are BROKEN").script("""
            choose(0, 0, 1); choose(0, 1, 1); search(0, 0, 1) -> 0; found(-1) -> 0; found(-2) -> 0
            set(0, [0 1]) -> 2; set(0, [2 3]) -> 3; fresh(0); search(0, 200, 5) -> 2
            """);
        two("13: out of TRIES, the DESK stays too").script("search(0, 1, 5) -> -2; set(0, [0..3]) -> 3");
    }

    private static void refusedSearches() {
        two("13: NONE if there is no such limit").script("""
            search(0, 200, [0 6 -1 -5 MAX MIN]) -> -1; search(0, 0, [0 6]) -> -1; search(0, 200, [1 2 2 1])
            found(-1) -> 1
            """);
        two("13: NONE if there are no such tries").script("""
            search(0, [-1 201 202 -200 MAX MIN], [1 5]) -> -1; search(0, 200, 5) -> 2; search(0, 0, 5) -> -2
            """);
        two("13: NONE if there is no such puzzle").script("""
            search([1 -1 30 MAX MIN], [0 200], [1 5]) -> -1; found(-1) -> 0; search(0, 200, 5) -> 2
            """);
        two("14: a search() that is refused is not the latest one").script("""
            search(0, 200, 5) -> 2; search(0, 201, 1) -> -1; search(0, -1, 1) -> -1; search(0, 0, 6) -> -1
            search(0, 0, 0) -> -1; search(1, 0, 1) -> -1; found(-1) -> 2; found(-2) -> 2
            """).rowDue("picture(1, ", "1001");
    }

    private static void found() {
        Talk.edge("14: both 0 ahead of any", """
            found([-1 -2]) -> 0; puzzle(1, 1, 1); settle(0); grade(0); found([-1 -2]) -> 0
            """);
        two("14: how many PICTURES were found (also if it was out of TRIES)").script("""
            search(0, 1, 5) -> -2; found(-1) -> 1; found(-2) -> 1; picture(0, 1) -> 1; picture(1, 0) -> -1
            """);
        two("14: Of the latest search()").script("""
            search(0, 200, 5) -> 2; search(0, 200, 1) -> 1; found([-1 -2]) -> 1; choose(0, 0, 0); search(0, 200, 5) -> 1
            found(-1) -> 1; found(-2) -> 0; puzzle(1, 1, 1); run(1, 0, 1, 1); search(1, 0, 5) -> 0; found([-1 -2]) -> 0
            """);
        two("14: NONE for others").script("""
            found([0 1 2 -3 -4 MAX MIN]) -> -1; search(0, 200, 5); found([0 1 2 -3 -4 MAX MIN]) -> -1
            """);
    }

    private static void picture() {
        Talk.edge("15: NONE if there is none such: ahead of any search()", """
            picture([0 1 -1 MAX MIN], [0 1 -1 MAX MIN]) -> -1; puzzle(1, 1, 1); picture(0, 0) -> -1
            """);
        two("15: NONE if there is no such PICTURE").script("""
            search(0, 200, 5) -> 2; picture([2 3 4 5 -1 MAX MIN], [0..3]) -> -1; picture(0, 3) -> 0; picture(1, 3) -> 1
            """);
        six("15: NONE if there is no such cell").script("""
            search(0, 200, 5) -> 5; picture([0..4], [9 10 99 100 -1 MAX MIN]) -> -1
            """);
        six("15: a wrong PICTURE and a wrong cell don't make up for one another").script("""
            search(0, 200, 5) -> 5; picture(-1, [9 18 100 109]) -> -1; picture(1, [-9 -100 -1]) -> -1
            picture(5, -9) -> -1
            picture([42949673 -42949672 477218589 1073741824], [0 4]) -> -1; picture(0, [65536 256]) -> -1
            """);
        Talk cells = new Talk("15: the cells of the puzzle that was searched, not of one searched ahead of it");
        cells.given(3, 3, 1, "3a/3a/3a/3a/3a/3a");
        cells.given(2, 1, 1, "2a/1a/1a");
        cells.script("search(0, 0, 1) -> 1; picture(0, 8) -> 1; search(1, 0, 1) -> 1; picture(0, [0 1]) -> 1");
        cells.script("picture(0, [2..9]) -> -1; search(0, 0, 1) -> 1; picture(0, 8) -> 1; picture(0, 9) -> -1");
        two("15: NONE when the latest search() found none").script("""
            search(0, 200, 5) -> 2; search(0, 0, 5) -> -2; picture([0 1], [0..3]) -> -1
            """);
        two("15: PICTURES stay, whatever comes to the puzzle").script("""
            search(0, 200, 5) -> 2; choose(0, 0, 1); settle(0); turn(0, 1); puzzle(1, 1, 1); run(2, 0, 1, 1) -> 1
            grade(1); game(0)
            found([-1 -2]) -> 2
            """).rowDue("picture(0, ", "0110").rowDue("picture(1, ", "1001");
        Talk.edge("15: PICTURES stay, when a RUN comes to the puzzle", """
            puzzle(2, 1, 1); search(0, 0, 1) -> 1; run(0, 0, 1, 2) -> 1; found(-1) -> 1; picture(0, [0 1]) -> 0
            picture(0, 2) -> -1
            """);
        Talk most = new Talk("15: the last cell of the largest puzzle").script("puzzle(10, 10, 1); run(0, [9 19], 1, 1)");
        most.script("search(0, 0, 5) -> 1; picture(0, 99) -> 1; picture(0, 98) -> 0; picture(0, 100) -> -1");
    }

    private static void grades() {
        Talk.ofClues("Terms 2: A GRADE: BROKEN: 0", 2, 2, 1, "0/0/0/1a").script("grade(0) -> 0; probes() -> 0");
        Talk.ofPicture("Terms 2: Each SET having one: 1", 1, "01010/11111/11111/01110/00100").script("""
            grade(0) -> 1; probes() -> 0
            """);
        Talk.edge("Terms 2: GRADE 1 of a puzzle without RUNS", "puzzle(10, 10, 3); grade(0) -> 1; probes() -> 0");
        Talk.ofPicture("Terms 2: If each SET has one at last: 2", 1, "0110/1001").script("""
            grade(0) -> 2; probes() -> 2
            """);
        two("Terms 2: else 3").script("grade(0) -> 3; probes() -> 8");
        Talk.ofClues("Terms 2: and the SETS SETTLE (BROKEN: the GRADE is 0)", 2, 7, 1, "1a/1a/1a/2a/1a/1a/1a/4a 1a/1a 2a")
            .script("grade(0) -> 0; probes() -> 1");
        Talk.ofPicture("Terms 2: Passes go on as long as a pass took something", 1, "000100/101010/001011/010010/000100")
            .script("grade(0) -> 2; probes() -> 12");
        two("Terms 2: A GRADE is by FULL SETS, and leaves the DESK").script("""
            choose(0, 0, 1); choose(0, 1, 1); grade(0) -> 3; probes() -> 8; set(0, [0 1]) -> 2; set(0, [2 3]) -> 3
            """);
        two("16: NONE if there is none such").script("grade([1 -1 30 MAX MIN]) -> -1; probes() -> 0; grade(0) -> 3");
    }

    private static void fourHundredProbes() {
        Talk.ofPicture("Terms 2: 3 with the 400th PROBE", 1, GRADE_3_AFTER_400_PROBES).script("""
            grade(0) -> 3; probes() -> 400
            """);
        Talk.ofPicture("Terms 2: Where a 401st PROBE would be: 4, at once (else 3)", 1, GRADE_3_AFTER_401_PROBES)
            .script("grade(0) -> 4; probes() -> 400; told(0, 4) -> 0");
        Talk.ofClues("Terms 2: 0 with the 400th PROBE", 10, 7, 1, GRADE_0_AFTER_400_PROBES).script("""
            grade(0) -> 0; probes() -> 400
            """);
        Talk.ofClues("Terms 2: Where a 401st PROBE would be: 4, at once (else 0)", 8, 8, 1, GRADE_0_AFTER_401_PROBES)
            .script("grade(0) -> 4; probes() -> 400");
        Talk.ofClues("Terms 2: Where a 401st PROBE would be: 4, at once (else 2)", 10, 10, 1, GRADE_2_AFTER_412_PROBES)
            .script("grade(0) -> 4; probes() -> 400; search(0, 200, 5) -> 1");
    }

    private static void probes() {
        Talk.edge("17: 0 ahead of any", "probes() -> 0; puzzle(1, 1, 1); search(0, 0, 1); settle(0); probes() -> 0");
        two("17: of the latest grade()").script("""
            grade(0) -> 3; probes() -> 8; puzzle(1, 1, 1); search(1, 0, 1); probes() -> 8; grade(1) -> 1; probes() -> 0
            grade(0) -> 3; grade(0) -> 3; probes() -> 8
            """);
        two("17: a grade() that is refused is not the latest one").script("""
            grade(0) -> 3; grade([1 -1 MAX MIN]) -> -1; probes() -> 8
            """);
    }
}
