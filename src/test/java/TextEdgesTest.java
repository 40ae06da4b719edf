/** The sentences of promises 29 to 31 (and of "Terms", 3) that name a boundary case, each with a test of its own. */
public final class TextEdgesTest {
    public static void main(String[] args) {
        written();
        withoutRuns();
        outStays();
        out();
        count();
        Check.end("TextEdgesTest");
    }

    private static void written() {
        Talk.ofClues("Terms 3: each RUN's LENGTH in digits and its COLOUR as a letter (a, b, c)", 10, 3, 3, "10c/9b/1a").script("""
            write(0, 0) -> 3; out(0) -> '1'; out(1) -> '0'; out(2) -> 'c'; out(3) -> -1
            write(0, 1) -> 2; out(0) -> '9'; out(1) -> 'b'; out(2) -> -1; write(0, 2) -> 2; out(0) -> '1'; out(1) -> 'a'
            """);
        Talk.ofClues("Terms 3: with blanks between", 5, 2, 2, "1a 2b 1b/2a 2a").script("""
            write(0, 0) -> 8; out(2) -> 32; out(3) -> '2'; out(4) -> 'b'; out(5) -> 32; out(6) -> '1'; out(7) -> 'b'
            out(8) -> -1
            write(0, 1) -> 5; out(0) -> '2'; out(2) -> 32; out(4) -> 'a'; out(5) -> -1
            """);
        Talk.ofPicture("29: how many signs: the longest", 3, "1231231231").script("""
            write(0, 0) -> 29; out([0 3 6 9 12 15 18 21 24 27]) -> '1'; out([2 5 8 11 14 17 20 23 26]) -> 32
            out([1 10 19 28]) -> 'a'; out([4 13 22]) -> 'b'; out([7 16 25]) -> 'c'; out([29 30]) -> -1
            """);
        Talk.ofClues("29: the last LINE", 2, 2, 1, "0/0/0/2a").script("write(0, 3) -> 2; out(0) -> '2'; out(1) -> 'a'");
    }

    private static void withoutRuns() {
        Talk.edge("Terms 3: without RUNS \"0\"", """
            puzzle(3, 2, 1); write(0, [0..4]) -> 1; out(0) -> '0'; out(1) -> -1; run(0, 0, 1, 3); write(0, 0) -> 2
            out(0) -> '3'; out(1) -> 'a'; write(0, 1) -> 1; out(0) -> '0'; out(1) -> -1
            """);
    }

    private static void outStays() {
        Talk.ofClues("29: NONE, and OUT stays, if there is no such puzzle", 3, 2, 1, "2a").script("""
            write(0, 0) -> 2; write([1 -1 30 MAX MIN], 1) -> -1; out(0) -> '2'; out(1) -> 'a'; out(2) -> -1
            """);
        Talk.ofClues("29: NONE, and OUT stays, if there is no such LINE", 3, 2, 1, "2a").script("""
            write(0, 0) -> 2; write(0, [5 6 -1 20 MAX MIN]) -> -1; out(0) -> '2'; out(1) -> 'a'; out(2) -> -1
            """);
        Talk.edge("29: NONE, and OUT stays empty", """
            write([0 -1 MAX MIN], 0) -> -1; out(0) -> -1; puzzle(1, 1, 1); write(0, 2) -> -1; out(0) -> -1
            """);
        Talk.edge("29: OUT is a LINE's CLUES as they were then", """
            puzzle(5, 1, 1); run(0, 0, 1, 1); write(0, 0) -> 2; run(0, 0, 1, 3); puzzle(1, 1, 1); game(0)
            out(0) -> '1'; out(2) -> -1
            write(0, 0) -> 5; out(3) -> '3'; write(1, 0) -> 1; out(0) -> '0'; out(1) -> -1
            """);
    }

    private static void out() {
        Talk.edge("30: NONE without: ahead of any write()", """
            out([0 1 -1 MAX MIN]) -> -1; puzzle(1, 1, 1); run(0, 0, 1, 1); out(0) -> -1
            """);
        Talk.ofClues("30: NONE without", 3, 1, 1, "2a").script("""
            write(0, 0) -> 2; out([2 3 16 29 -1 -2 256 MAX MIN]) -> -1; out(0) -> '2'; out(1) -> 'a'
            """);
    }

    private static void count() {
        Talk.edge("31: 0 puzzles, 1 GAMES", """
            count([0 1]) -> 0; puzzle(1, 1, 1); make(1, 1, 1); turn(0, 0); count(0) -> 3; count(1) -> 0; game(2)
            game(2)
            count(0) -> 3; count(1) -> 2
            """);
        Talk.edge("31: what was refused doesn't count", """
            puzzle(0, 1, 1); make(1, 1, 4); turn(0, 0); game(0); count([0 1]) -> 0; puzzle(1, 1, 1); turn(0, 8); game(1)
            count(0) -> 1; count(1) -> 0
            """);
        Talk.edge("31: NONE for others", """
            count([2 3 -1 -2 MAX MIN]) -> -1; puzzle(1, 1, 1); game(0); count([2 -1]) -> -1
            """);
    }
}
