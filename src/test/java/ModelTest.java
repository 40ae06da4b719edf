import java.util.Arrays;
import java.util.Random;

/** Runs of calls, the same ones each time, on RunPictures and on the Model: each answer must be the same. */
public final class ModelTest {
    private static final String[] NAMES = {
        "puzzle", "run", "told", "clue", "fresh", "choose", "bar", "set", "step", "ways", "settle", "search", "found",
        "picture", "grade", "probes", "paint", "make", "turn", "same", "game", "mark", "marked", "undo", "redo", "hint",
        "state", "write", "out", "count"
    };
    private static final int[] ODD = {-2, -1, 1000, Integer.MAX_VALUE, Integer.MIN_VALUE, 1 << 16, 32, 31};

    private static final int[] NEAR_BOUNDS = {
        Integer.MIN_VALUE, Integer.MIN_VALUE + 1, -100, -3, -2, -1, 0, 1, 2, 3, 4, 5, 6, 7, 8, 9, 10, 11, 12, 20, 30, 32, 99,
        100, 200, 201, Integer.MAX_VALUE - 1, Integer.MAX_VALUE
    };
    // For calls with four arguments, which would be too many with all of the above.
    private static final int[] NEAR_FEW_BOUNDS = {
        Integer.MIN_VALUE, -2, -1, 0, 1, 2, 3, 4, 7, 10, 11, Integer.MAX_VALUE
    };

    private final Random random;
    private final RunPictures real = new RunPictures();
    private final Model model = new Model();
    private final StringBuilder told = new StringBuilder();
    private int calls = 0;

    private ModelTest(long seed) {
        random = new Random(seed);
        told.append("seed ").append(seed).append('\n');
    }

    private int call(String name, int... args) {
        if (calls >= 512) {
            return -1;
        }
        calls++;
        long got = Calls.answer(real, name, args);
        long want = Calls.answer(model, name, args);
        told.append(name).append(Arrays.toString(args)).append(" -> ").append(got).append('\n');
        if (got != want) {
            System.out.println(told);
            Check.due("the last call", got, want);
            Check.end("ModelTest");
        }
        return (int) want;
    }

    private int below(int bound) {
        return random.nextInt(Math.max(1, bound));
    }

    /** Mostly 0 .. bound, sometimes far outside. */
    private int around(int bound) {
        return below(30) == 0 ? ODD[below(ODD.length)] : below(bound + 1);
    }

    private int somePuzzle() {
        return below(25) == 0 ? around(31) : below(model.count(0));
    }

    private int someGame() {
        return below(25) == 0 ? around(21) : below(model.count(1));
    }

    private int someCell(int p) {
        return around(Math.max(1, model.told(p, 0) * model.told(p, 1)) - (below(20) == 0 ? 0 : 1));
    }

    private int someLine(int p) {
        return around(Math.max(1, model.told(p, 0) + model.told(p, 1)) - (below(20) == 0 ? 0 : 1));
    }

    /** Any call with arguments that are mostly fit for it. */
    private void anyCall(int side) {
        String name = NAMES[below(NAMES.length)];
        int p = somePuzzle();
        int g = someGame();
        int ofGame = model.state(g, 0);
        switch (name) {
            case "puzzle", "make" -> {
                if (below(3) == 0) {
                    call(name, 1 + around(side - 1), 1 + around(side - 1), below(3) + 1);
                } else if (below(5) == 0) {
                    call(name, around(11), around(11), around(4));
                }
            }
            case "run" -> call(name, p, someLine(p), below(10) == 0 ? around(4) : 1 + below(model.told(p, 2)), around(below(4) == 0 ? 10 : 2));
            case "told" -> call(name, p, around(5));
            case "clue" -> call(name, p, someLine(p), around(3), around(2));
            case "fresh", "settle", "grade" -> call(name, p);
            case "game" -> {
                if (below(4) == 0) {
                    call(name, p);
                }
            }
            case "choose", "bar" -> call(name, p, someCell(p), around(3));
            case "set" -> call(name, p, someCell(p));
            case "step", "ways", "write" -> call(name, p, someLine(p));
            case "search" -> call(name, p, below(3) == 0 ? below(5) : around(201), below(10) == 0 ? around(6) : 1 + below(5));
            case "found" -> call(name, below(4) - 3);
            case "picture" -> call(name, around(2), someCell(p));
            case "probes" -> call(name);
            case "paint" -> call(name, around(below(5) == 0 ? 10 : side - 1), around(below(5) == 0 ? 10 : side - 1), around(3));
            case "turn" -> call(name, p, around(8));
            case "same" -> call(name, p, somePuzzle());
            case "mark" -> call(name, g, someCell(ofGame), below(6) == 0 ? around(4) : below(model.told(ofGame, 2) + 2) - 1);
            case "marked" -> call(name, g, someCell(ofGame));
            case "undo", "redo", "hint" -> call(name, g);
            case "state" -> call(name, g, around(7));
            case "out" -> call(name, around(12));
            default -> call(name, around(2));
        }
    }

    private void anyCalls() {
        int side = 1 + below(6);
        call("puzzle", 1 + below(side), 1 + below(side), 1 + below(3));
        while (calls < 512) {
            int before = calls;
            for (int i = 0; i < 100 && calls == before; i++) {
                anyCall(side);
            }
        }
    }

    private int paintedPuzzle(int width, int height, int colours, int blanks) {
        for (int y = 0; y < height; y++) {
            for (int x = 0; x < width; x++) {
                call("paint", x, y, below(100) < blanks ? 0 : 1 + below(colours));
            }
        }
        return call("make", width, height, colours);
    }

    private void lookAtDesk(int p) {
        for (int cell = 0; cell < model.told(p, 0) * model.told(p, 1); cell++) {
            call("set", p, cell);
        }
    }

    /** A picture's puzzle: solved, graded, searched, turned. */
    private void pictureCalls() {
        int width = 1 + below(10);
        int height = 1 + below(10);
        int p = paintedPuzzle(width, height, 1 + below(3), 10 + below(85));
        call("grade", p);
        call("probes");
        call("search", p, below(201), 1 + below(5));
        call("found", -1);
        call("found", -2);
        for (int i = 0; i < 40; i++) {
            call("picture", below(2), below(width * height));
        }
        call("step", p, below(width + height));
        for (int line = 0; line < width + height; line++) {
            call("ways", p, line);
        }
        call("settle", p);
        lookAtDesk(p);
        for (int i = 0; i < 15; i++) {
            call(below(3) == 0 ? "choose" : "bar", p, below(width * height), below(4));
            call("ways", p, below(width + height));
            if (below(2) == 0) {
                call("settle", p);
            } else {
                call("step", p, below(width + height));
            }
            call("search", p, below(20), 1 + below(5));
            call("found", -2);
        }
        int q = call("turn", p, below(8));
        call("same", p, q);
        call("same", q, p);
        call("grade", q);
        call("probes");
        while (calls < 512) {
            call("write", q, below(width + height));
            call("out", below(6));
            call("picture", below(3), below(width * height));
        }
    }

    /** The clues of a picture come run by run, some lines' backwards: often there is no picture then. */
    private void mixedCalls() {
        int width = 2 + below(6);
        int height = 2 + below(8);
        int colours = 1 + below(2);
        int p = paintedPuzzle(width, height, colours, 30 + below(40));
        int q = call("puzzle", width, height, colours);
        for (int line = 0; line < width + height; line++) {
            boolean backwards = below(width + height) == 0;
            int runs = 0;
            while (model.clue(p, line, runs, 0) > 0) {
                runs++;
            }
            for (int i = 0; i < runs; i++) {
                int from = backwards ? runs - 1 - i : i;
                call("run", q, line, model.clue(p, line, from, 0), model.clue(p, line, from, 1));
            }
        }
        call("same", p, q);
        call("grade", q);
        call("probes");
        call("search", q, 200, 5);
        call("found", -2);
        call("settle", q);
        lookAtDesk(q);
        for (int i = 0; i < 20; i++) {
            call("bar", q, below(width * height), below(colours + 1));
            call("settle", q);
            call("search", q, 200, 1 + below(5));
            call("found", -2);
            call("told", q, 4);
        }
        call("grade", q);
    }

    /** Games that follow the hints and go astray now and then. */
    private void gameCalls() {
        int width = 1 + below(7);
        int height = 1 + below(7);
        int colours = 1 + below(3);
        int p = paintedPuzzle(width, height, colours, 10 + below(60));
        int g = call("game", p);
        while (calls < 512) {
            int advice = call("hint", g);
            boolean astray = below(12) == 0;
            if (advice >= 0 && !astray) {
                call("mark", g, advice / 4, advice % 4);
            } else if (advice < -1 && below(2) == 0) {
                call("undo", g);
            } else if (below(3) == 0) {
                call("redo", g);
            } else {
                call("mark", g, below(width * height), below(colours + 2) - 1);
            }
            call("state", g, below(7));
            call("state", g, 3);
            call("marked", g, below(width * height));
        }
    }

    private void beginAnyhow() {
        paintedPuzzle(4, 3, 2, 50);
        call("game", paintedPuzzle(2, 2, 1, 50));
        for (int i = 0; i < 30; i++) {
            anyCall(4);
        }
    }

    private boolean isUsedUp() {
        return calls >= 512 || model.count(0) >= 30 || model.count(1) >= 20;
    }

    /** A call with each number that is next to a bound of the document, and the outermost ones, in each of its places. */
    private static void callsNearBounds(String name) {
        int places = Calls.arguments(name);
        int[] numbers = places > 3 ? NEAR_FEW_BOUNDS : NEAR_BOUNDS;
        int all = 1;
        for (int i = 0; i < places; i++) {
            all *= numbers.length;
        }
        ModelTest test = null;
        for (int i = 0; i < all; i++) {
            if (test == null || test.isUsedUp()) {
                test = new ModelTest(i);
                test.beginAnyhow();
            }
            int[] args = new int[places];
            for (int k = 0, rest = i; k < places; k++, rest /= numbers.length) {
                args[k] = numbers[rest % numbers.length];
            }
            test.call(name, args);
        }
    }

    public static void main(String[] args) {
        for (String name : NAMES) {
            callsNearBounds(name);
        }
        int rounds = args.length > 0 ? Integer.parseInt(args[0]) : 200;
        long start = args.length > 1 ? Long.parseLong(args[1]) : 0;
        for (long seed = start; seed < start + rounds; seed++) {
            new ModelTest(seed * 4).anyCalls();
            new ModelTest(seed * 4 + 1).pictureCalls();
            new ModelTest(seed * 4 + 2).mixedCalls();
            new ModelTest(seed * 4 + 3).gameCalls();
        }
        Check.end("ModelTest");
    }
}
