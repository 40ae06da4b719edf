import java.util.ArrayList;
import java.util.Arrays;
import java.util.Collections;
import java.util.List;
import java.util.TreeSet;

/**
 * The document once more, as plainly as can be and with no thought for speed: every filling is listed, sets are sets,
 * searches are calls within calls, pictures are turned cell by cell. ModelTest compares RunPictures with it.
 */
final class Model {
    record Run(int colour, int length) {
    }

    record Change(int cell, int before, int after) {
    }

    static final class Sets {
        final List<TreeSet<Integer>> cells = new ArrayList<>();

        Sets copy() {
            Sets copy = new Sets();
            for (TreeSet<Integer> cell : cells) {
                copy.cells.add(new TreeSet<>(cell));
            }
            return copy;
        }

        boolean allOne() {
            return cells.stream().allMatch(cell -> cell.size() == 1);
        }

        int size() {
            return cells.stream().mapToInt(TreeSet::size).sum();
        }
    }

    static final class Puzzle {
        int width;
        int height;
        int colours;
        List<List<Run>> clues = new ArrayList<>();
        List<List<int[]>> fillings = new ArrayList<>();
        Sets desk;
        boolean begun;

        Puzzle(int width, int height, int colours) {
            this.width = width;
            this.height = height;
            this.colours = colours;
            for (int line = 0; line < width + height; line++) {
                clues.add(new ArrayList<>());
                fillings.add(null);
            }
            desk = full();
        }

        Sets full() {
            Sets sets = new Sets();
            for (int cell = 0; cell < width * height; cell++) {
                TreeSet<Integer> set = new TreeSet<>();
                for (int colour = 0; colour <= colours; colour++) {
                    set.add(colour);
                }
                sets.cells.add(set);
            }
            return sets;
        }

        int[] cellsOf(int line) {
            boolean row = line < height;
            int[] cells = new int[row ? width : height];
            for (int i = 0; i < cells.length; i++) {
                cells[i] = row ? line * width + i : i * width + line - height;
            }
            return cells;
        }

        List<int[]> fillingsOf(int line) {
            if (fillings.get(line) == null) {
                fillings.set(line, allFillings(cellsOf(line).length, clues.get(line)));
            }
            return fillings.get(line);
        }

        List<int[]> fits(int line, Sets sets) {
            int[] cells = cellsOf(line);
            List<int[]> fits = new ArrayList<>();
            for (int[] filling : fillingsOf(line)) {
                boolean good = true;
                for (int i = 0; i < cells.length; i++) {
                    good = good && sets.cells.get(cells[i]).contains(filling[i]);
                }
                if (good) {
                    fits.add(filling);
                }
            }
            return fits;
        }

        /** False if the line is broken. */
        boolean takeStep(int line, Sets sets) {
            List<int[]> fits = fits(line, sets);
            if (fits.isEmpty()) {
                return false;
            }
            int[] cells = cellsOf(line);
            for (int i = 0; i < cells.length; i++) {
                TreeSet<Integer> had = new TreeSet<>();
                for (int[] filling : fits) {
                    had.add(filling[i]);
                }
                sets.cells.get(cells[i]).retainAll(had);
            }
            return true;
        }

        /** Rounds that took something, or -2. */
        int letSettle(Sets sets) {
            int rounds = 0;
            while (true) {
                int before = sets.size();
                for (int line = 0; line < width + height; line++) {
                    if (!takeStep(line, sets)) {
                        return -2;
                    }
                }
                if (sets.size() == before) {
                    return rounds;
                }
                rounds++;
            }
        }
    }

    static final class Game {
        int p;
        int[] marks;
        List<Change> done = new ArrayList<>();
        List<Change> back = new ArrayList<>();
        int hints;
    }

    static List<Run> runsOf(int[] filling) {
        List<Run> runs = new ArrayList<>();
        int i = 0;
        while (i < filling.length) {
            int j = i;
            while (j < filling.length && filling[j] == filling[i]) {
                j++;
            }
            if (filling[i] != 0) {
                runs.add(new Run(filling[i], j - i));
            }
            i = j;
        }
        return runs;
    }

    static List<int[]> allFillings(int length, List<Run> runs) {
        List<int[]> all = new ArrayList<>();
        placeRuns(new int[length], 0, runs, 0, all);
        return all;
    }

    private static void placeRuns(int[] filling, int from, List<Run> runs, int i, List<int[]> all) {
        if (i == runs.size()) {
            if (runsOf(filling).equals(runs)) {
                all.add(filling.clone());
            }
            return;
        }
        Run run = runs.get(i);
        for (int start = from; start <= filling.length - run.length(); start++) {
            Arrays.fill(filling, start, start + run.length(), run.colour());
            placeRuns(filling, start + run.length(), runs, i + 1, all);
            Arrays.fill(filling, start, start + run.length(), 0);
        }
    }

    private final List<Puzzle> puzzles = new ArrayList<>();
    private final List<Game> games = new ArrayList<>();
    private final int[][] canvas = new int[10][10];
    private List<int[]> pictures = new ArrayList<>();
    private int triesHad = 0;
    private int probesHad = 0;
    private String out = "";

    private Puzzle at(int p) {
        return p >= 0 && p < puzzles.size() ? puzzles.get(p) : null;
    }

    private boolean noLine(int p, int line) {
        return at(p) == null || line < 0 || line >= at(p).width + at(p).height;
    }

    private boolean noCell(int p, int cell) {
        return at(p) == null || cell < 0 || cell >= at(p).width * at(p).height;
    }

    private boolean noGame(int g) {
        return g < 0 || g >= games.size();
    }

    int puzzle(int width, int height, int colours) {
        if (width < 1 || width > 10 || height < 1 || height > 10 || colours < 1 || colours > 3 || puzzles.size() == 30) {
            return -1;
        }
        puzzles.add(new Puzzle(width, height, colours));
        return puzzles.size() - 1;
    }

    int run(int p, int line, int colour, int length) {
        if (noLine(p, line) || colour < 1 || colour > at(p).colours || length < 1 || length > 10 || at(p).begun) {
            return -1;
        }
        List<Run> runs = new ArrayList<>(at(p).clues.get(line));
        runs.add(new Run(colour, length));
        if (allFillings(at(p).cellsOf(line).length, runs).isEmpty()) {
            return -1;
        }
        at(p).clues.set(line, runs);
        at(p).fillings.set(line, null);
        at(p).desk = at(p).full();
        return runs.size();
    }

    int told(int p, int what) {
        if (at(p) == null) {
            return -1;
        }
        return switch (what) {
            case 0 -> at(p).width;
            case 1 -> at(p).height;
            case 2 -> at(p).colours;
            case 3 -> at(p).clues.stream().mapToInt(List::size).sum();
            case 4 -> (int) at(p).desk.cells.stream().filter(set -> set.size() == 1).count();
            default -> -1;
        };
    }

    int clue(int p, int line, int i, int what) {
        if (noLine(p, line) || i < 0 || i >= at(p).clues.get(line).size() || what < 0 || what > 1) {
            return -1;
        }
        Run run = at(p).clues.get(line).get(i);
        return what == 0 ? run.colour() : run.length();
    }

    boolean fresh(int p) {
        if (at(p) == null) {
            return false;
        }
        at(p).desk = at(p).full();
        return true;
    }

    boolean choose(int p, int cell, int colour) {
        if (noCell(p, cell) || !at(p).desk.cells.get(cell).contains(colour)) {
            return false;
        }
        at(p).desk.cells.set(cell, new TreeSet<>(List.of(colour)));
        return true;
    }

    boolean bar(int p, int cell, int colour) {
        if (noCell(p, cell) || at(p).desk.cells.get(cell).size() == 1) {
            return false;
        }
        return at(p).desk.cells.get(cell).remove(colour);
    }

    int set(int p, int cell) {
        if (noCell(p, cell)) {
            return 0;
        }
        return at(p).desk.cells.get(cell).stream().mapToInt(colour -> new int[] {1, 2, 4, 8}[colour]).sum();
    }

    int step(int p, int line) {
        if (noLine(p, line)) {
            return -1;
        }
        int before = at(p).desk.size();
        return at(p).takeStep(line, at(p).desk) ? before - at(p).desk.size() : -2;
    }

    int ways(int p, int line) {
        return noLine(p, line) ? -1 : at(p).fits(line, at(p).desk).size();
    }

    int settle(int p) {
        if (at(p) == null) {
            return -1;
        }
        Sets sets = at(p).desk.copy();
        int rounds = at(p).letSettle(sets);
        if (rounds >= 0) {
            at(p).desk = sets;
        }
        return rounds;
    }

    int search(int p, int tries, int limit) {
        if (at(p) == null || tries < 0 || tries > 200 || limit < 1 || limit > 5) {
            return -1;
        }
        pictures = new ArrayList<>();
        triesHad = 0;
        String end = look(at(p), at(p).desk.copy(), tries, limit);
        return end.equals("out of tries") ? -2 : pictures.size();
    }

    private String look(Puzzle puzzle, Sets sets, int tries, int limit) {
        if (puzzle.letSettle(sets) < 0) {
            return "through";
        }
        if (sets.allOne()) {
            pictures.add(sets.cells.stream().mapToInt(TreeSet::first).toArray());
            return pictures.size() == limit ? "limit" : "through";
        }
        int fewest = sets.cells.stream().mapToInt(TreeSet::size).filter(size -> size >= 2).min().getAsInt();
        int cell = 0;
        while (sets.cells.get(cell).size() != fewest) {
            cell++;
        }
        for (int colour : sets.cells.get(cell)) {
            if (triesHad == tries) {
                return "out of tries";
            }
            triesHad++;
            Sets copy = sets.copy();
            copy.cells.set(cell, new TreeSet<>(List.of(colour)));
            String end = look(puzzle, copy, tries, limit);
            if (!end.equals("through")) {
                return end;
            }
        }
        return "through";
    }

    int found(int what) {
        return what == -1 ? pictures.size() : what == -2 ? triesHad : -1;
    }

    int picture(int i, int cell) {
        if (i < 0 || i >= pictures.size() || cell < 0 || cell >= pictures.get(i).length) {
            return -1;
        }
        return pictures.get(i)[cell];
    }

    int grade(int p) {
        if (at(p) == null) {
            return -1;
        }
        probesHad = 0;
        Puzzle puzzle = at(p);
        Sets sets = puzzle.full();
        if (puzzle.letSettle(sets) < 0) {
            return 0;
        }
        if (sets.allOne()) {
            return 1;
        }
        boolean took = true;
        while (took) {
            took = false;
            for (int cell = 0; cell < puzzle.width * puzzle.height; cell++) {
                for (int colour = 0; colour <= puzzle.colours; colour++) {
                    TreeSet<Integer> set = sets.cells.get(cell);
                    if (!set.contains(colour) || set.size() < 2) {
                        continue;
                    }
                    if (probesHad == 400) {
                        return 4;
                    }
                    probesHad++;
                    Sets copy = sets.copy();
                    copy.cells.set(cell, new TreeSet<>(List.of(colour)));
                    if (puzzle.letSettle(copy) < 0) {
                        set.remove(colour);
                        took = true;
                        if (puzzle.letSettle(sets) < 0) {
                            return 0;
                        }
                    }
                }
            }
        }
        return sets.allOne() ? 2 : 3;
    }

    int probes() {
        return probesHad;
    }

    boolean paint(int x, int y, int colour) {
        if (x < 0 || x > 9 || y < 0 || y > 9 || colour < 0 || colour > 3) {
            return false;
        }
        canvas[y][x] = colour;
        return true;
    }

    int make(int width, int height, int colours) {
        for (int y = 0; y < Math.min(height, 10); y++) {
            for (int x = 0; x < Math.min(width, 10); x++) {
                if (canvas[y][x] > colours) {
                    return -1;
                }
            }
        }
        int p = puzzle(width, height, colours);
        for (int line = 0; p >= 0 && line < width + height; line++) {
            int[] cells = at(p).cellsOf(line);
            int[] filling = new int[cells.length];
            for (int i = 0; i < cells.length; i++) {
                filling[i] = canvas[cells[i] / width][cells[i] % width];
            }
            at(p).clues.set(line, runsOf(filling));
        }
        return p;
    }

    /** Each turn is done by itself, one after the other, on rows and columns of clues. */
    private Puzzle turned(Puzzle puzzle, int how) {
        List<List<Run>> rows = new ArrayList<>();
        List<List<Run>> columns = new ArrayList<>();
        for (int line = 0; line < puzzle.clues.size(); line++) {
            (line < puzzle.height ? rows : columns).add(new ArrayList<>(puzzle.clues.get(line)));
        }
        if (how % 2 == 1) {
            Collections.reverse(columns);
            rows.forEach(Collections::reverse);
        }
        if (how / 2 % 2 == 1) {
            Collections.reverse(rows);
            columns.forEach(Collections::reverse);
        }
        if (how / 4 == 1) {
            List<List<Run>> kept = rows;
            rows = columns;
            columns = kept;
        }
        Puzzle other = new Puzzle(columns.size(), rows.size(), puzzle.colours);
        other.clues = new ArrayList<>(rows);
        other.clues.addAll(columns);
        return other;
    }

    int turn(int p, int how) {
        if (at(p) == null || how < 0 || how > 7 || puzzles.size() == 30) {
            return -1;
        }
        puzzles.add(turned(at(p), how));
        return puzzles.size() - 1;
    }

    int same(int p, int q) {
        for (int how = 0; at(p) != null && at(q) != null && how < 8; how++) {
            Puzzle other = turned(at(p), how);
            if (other.width == at(q).width && other.height == at(q).height && other.colours == at(q).colours
                && other.clues.equals(at(q).clues)) {
                return how;
            }
        }
        return -1;
    }

    int game(int p) {
        if (at(p) == null || games.size() == 20) {
            return -1;
        }
        Game game = new Game();
        game.p = p;
        game.marks = new int[at(p).width * at(p).height];
        Arrays.fill(game.marks, -1);
        at(p).begun = true;
        games.add(game);
        return games.size() - 1;
    }

    boolean mark(int g, int cell, int colour) {
        if (noGame(g) || noCell(games.get(g).p, cell) || colour < -1 || colour > at(games.get(g).p).colours) {
            return false;
        }
        Game game = games.get(g);
        if (game.marks[cell] == colour || game.done.size() == 200) {
            return false;
        }
        game.done.add(new Change(cell, game.marks[cell], colour));
        game.back.clear();
        game.marks[cell] = colour;
        return true;
    }

    int marked(int g, int cell) {
        return noGame(g) || noCell(games.get(g).p, cell) ? -1 : games.get(g).marks[cell];
    }

    int undo(int g) {
        if (noGame(g) || games.get(g).done.isEmpty()) {
            return -1;
        }
        Game game = games.get(g);
        Change change = game.done.remove(game.done.size() - 1);
        game.back.add(change);
        game.marks[change.cell()] = change.before();
        return change.cell();
    }

    int redo(int g) {
        if (noGame(g) || games.get(g).back.isEmpty()) {
            return -1;
        }
        Game game = games.get(g);
        Change change = game.back.remove(game.back.size() - 1);
        game.done.add(change);
        game.marks[change.cell()] = change.after();
        return change.cell();
    }

    private Sets marksAsSets(Game game) {
        Sets sets = at(game.p).full();
        for (int cell = 0; cell < game.marks.length; cell++) {
            if (game.marks[cell] >= 0) {
                sets.cells.set(cell, new TreeSet<>(List.of(game.marks[cell])));
            }
        }
        return sets;
    }

    int hint(int g) {
        if (noGame(g)) {
            return -1;
        }
        Game game = games.get(g);
        Puzzle puzzle = at(game.p);
        for (int line = 0; line < puzzle.width + puzzle.height; line++) {
            Sets sets = marksAsSets(game);
            if (!puzzle.takeStep(line, sets)) {
                game.hints++;
                return -2 - line;
            }
            for (int cell : puzzle.cellsOf(line)) {
                if (game.marks[cell] < 0 && sets.cells.get(cell).size() == 1) {
                    game.hints++;
                    return 4 * cell + sets.cells.get(cell).first();
                }
            }
        }
        return -1;
    }

    int state(int g, int what) {
        if (noGame(g)) {
            return -1;
        }
        Game game = games.get(g);
        return switch (what) {
            case 0 -> game.p;
            case 1 -> (int) Arrays.stream(game.marks).filter(mark -> mark >= 0).count();
            case 2 -> brokenLines(game);
            case 3 -> isPicture(game) ? 1 : 0;
            case 4 -> game.done.size();
            case 5 -> game.back.size();
            case 6 -> game.hints;
            default -> -1;
        };
    }

    private int brokenLines(Game game) {
        int broken = 0;
        for (int line = 0; line < at(game.p).width + at(game.p).height; line++) {
            broken += at(game.p).fits(line, marksAsSets(game)).isEmpty() ? 1 : 0;
        }
        return broken;
    }

    private boolean isPicture(Game game) {
        Puzzle puzzle = at(game.p);
        for (int line = 0; line < puzzle.width + puzzle.height; line++) {
            int[] filling = Arrays.stream(puzzle.cellsOf(line)).map(cell -> game.marks[cell]).toArray();
            boolean allMarked = Arrays.stream(filling).allMatch(mark -> mark >= 0);
            if (!allMarked || !runsOf(filling).equals(puzzle.clues.get(line))) {
                return false;
            }
        }
        return true;
    }

    int write(int p, int line) {
        if (noLine(p, line)) {
            return -1;
        }
        List<String> words = new ArrayList<>();
        for (Run run : at(p).clues.get(line)) {
            words.add(run.length() + "abc".substring(run.colour() - 1, run.colour()));
        }
        out = words.isEmpty() ? "0" : String.join(" ", words);
        return out.length();
    }

    int out(int i) {
        return i < 0 || i >= out.length() ? -1 : out.charAt(i);
    }

    int count(int what) {
        return what == 0 ? puzzles.size() : what == 1 ? games.size() : -1;
    }
}
