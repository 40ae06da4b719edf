import java.util.Arrays;

/** A house of picture puzzles. What each call answers is promised in DOC.md, whose words are used here. */
public final class RunPictures {
    public static final int NONE = -1;

    private static final int BROKEN = -2;
    private static final int OUT_OF_TRIES = -2;
    private static final int OUT_OF_PROBES = -3;

    private static final int MOST_PUZZLES = 30;
    private static final int MOST_GAMES = 20;
    private static final int MOST_SIDE = 10;
    private static final int MOST_CELLS = 100;
    private static final int MOST_COLOURS = 3;
    private static final int MOST_PICTURES = 5;
    private static final int MOST_TRIES = 200;
    private static final int MOST_PROBES = 400;
    private static final int MOST_CHANGES = 200;

    private static final int TURNS = 8;
    private static final int MIRRORED = 1;
    private static final int UPSIDE_DOWN = 2;
    private static final int EXCHANGED = 4;

    // A set is a sum of 1, 2, 4, 8, so there are 16 of them.
    private static final int SETS = 16;
    // Ten cells of runs and a gap ahead of and behind each of at most ten runs.
    private static final int MOST_PLACES = 21;
    // Loops that end of themselves after some hundred turns stop here at the latest.
    private static final int FAR_END = 1000000;

    private final Puzzle[] puzzles;
    private final Game[] games;
    private final int[] canvas;
    private final int[] scratch;
    private final StringBuilder sheet;
    private final Scan scan;
    private final Settler settler;
    private final Searcher searcher;
    private final Grader grader;
    private int puzzlesCome;
    private int gamesCome;

    public RunPictures() {
        puzzles = new Puzzle[MOST_PUZZLES];
        games = new Game[MOST_GAMES];
        canvas = new int[MOST_CELLS];
        scratch = new int[MOST_CELLS];
        sheet = new StringBuilder();
        scan = new Scan();
        settler = new Settler(scan);
        searcher = new Searcher(settler);
        grader = new Grader(settler);
        puzzlesCome = 0;
        gamesCome = 0;
    }

    public int puzzle(int width, int height, int colours) {
        if (!canCome(width, height, colours)) {
            return NONE;
        }
        return admit(new Puzzle(width, height, colours));
    }

    public int run(int p, int line, int colour, int length) {
        Puzzle puzzle = puzzleAt(p);
        Line place = lineAt(puzzle, line);
        if (puzzle == null || place == null || puzzle.begun) {
            return NONE;
        }
        if (colour < 1 || colour > puzzle.colours || !place.append(colour, length)) {
            return NONE;
        }
        puzzle.clearDesk();
        return place.runs;
    }

    public int told(int p, int what) {
        Puzzle puzzle = puzzleAt(p);
        if (puzzle == null) {
            return NONE;
        }
        switch (what) {
            case 0:
                return puzzle.width;
            case 1:
                return puzzle.height;
            case 2:
                return puzzle.colours;
            case 3:
                return puzzle.allRuns();
            case 4:
                return puzzle.decidedCells(puzzle.desk);
            default:
                return NONE;
        }
    }

    public int clue(int p, int line, int i, int what) {
        Line place = lineAt(puzzleAt(p), line);
        if (place == null || i < 0 || i >= place.runs) {
            return NONE;
        }
        if (what == 0) {
            return place.colours[i];
        }
        return what == 1 ? place.lengths[i] : NONE;
    }

    public boolean fresh(int p) {
        Puzzle puzzle = puzzleAt(p);
        if (puzzle == null) {
            return false;
        }
        puzzle.clearDesk();
        return true;
    }

    public boolean choose(int p, int cell, int colour) {
        Puzzle puzzle = puzzleAt(p);
        if (puzzle == null || !puzzle.deskHolds(cell, colour)) {
            return false;
        }
        puzzle.desk[cell] = 1 << colour;
        return true;
    }

    public boolean bar(int p, int cell, int colour) {
        Puzzle puzzle = puzzleAt(p);
        if (puzzle == null || !puzzle.deskHolds(cell, colour) || isOne(puzzle.desk[cell])) {
            return false;
        }
        puzzle.desk[cell] &= ~(1 << colour);
        return true;
    }

    public int set(int p, int cell) {
        Puzzle puzzle = puzzleAt(p);
        return puzzle == null || !puzzle.hasCell(cell) ? 0 : puzzle.desk[cell];
    }

    public int step(int p, int line) {
        Puzzle puzzle = puzzleAt(p);
        Line place = lineAt(puzzle, line);
        return puzzle == null || place == null ? NONE : settler.narrow(place, puzzle.desk);
    }

    public int ways(int p, int line) {
        Puzzle puzzle = puzzleAt(p);
        Line place = lineAt(puzzle, line);
        return puzzle == null || place == null ? NONE : scan.countFillings(place, puzzle.desk);
    }

    public int settle(int p) {
        Puzzle puzzle = puzzleAt(p);
        if (puzzle == null) {
            return NONE;
        }
        System.arraycopy(puzzle.desk, 0, scratch, 0, puzzle.cells);
        int rounds = settler.bringToRest(puzzle, scratch, puzzle.everyLine());
        if (rounds != BROKEN) {
            System.arraycopy(scratch, 0, puzzle.desk, 0, puzzle.cells);
        }
        return rounds;
    }

    public int search(int p, int tries, int limit) {
        Puzzle puzzle = puzzleAt(p);
        if (puzzle == null || tries < 0 || tries > MOST_TRIES || limit < 1 || limit > MOST_PICTURES) {
            return NONE;
        }
        return searcher.seek(puzzle, tries, limit);
    }

    public int found(int what) {
        if (what == NONE) {
            return searcher.pictureCount;
        }
        return what == OUT_OF_TRIES ? searcher.tryCount : NONE;
    }

    public int picture(int i, int cell) {
        if (i < 0 || i >= searcher.pictureCount || cell < 0 || cell >= searcher.cells) {
            return NONE;
        }
        return searcher.pictures[i * MOST_CELLS + cell];
    }

    public int grade(int p) {
        Puzzle puzzle = puzzleAt(p);
        return puzzle == null ? NONE : grader.assess(puzzle);
    }

    public int probes() {
        return grader.probeCount;
    }

    public boolean paint(int x, int y, int colour) {
        if (x < 0 || x >= MOST_SIDE || y < 0 || y >= MOST_SIDE || colour < 0 || colour > MOST_COLOURS) {
            return false;
        }
        canvas[y * MOST_SIDE + x] = colour;
        return true;
    }

    public int make(int width, int height, int colours) {
        if (!canCome(width, height, colours) || !cutCanvas(width, height, colours)) {
            return NONE;
        }
        Puzzle puzzle = new Puzzle(width, height, colours);
        for (int k = 0; k < puzzle.lines.length; k++) {
            puzzle.lines[k].readRuns(scratch);
        }
        return admit(puzzle);
    }

    public int turn(int p, int how) {
        Puzzle puzzle = puzzleAt(p);
        if (puzzle == null || how < 0 || how >= TURNS || puzzlesCome >= MOST_PUZZLES) {
            return NONE;
        }
        return admit(puzzle.turned(how));
    }

    public int same(int p, int q) {
        Puzzle puzzle = puzzleAt(p);
        Puzzle other = puzzleAt(q);
        if (puzzle == null || other == null) {
            return NONE;
        }
        for (int how = 0; how < TURNS; how++) {
            if (puzzle.turnsInto(other, how)) {
                return how;
            }
        }
        return NONE;
    }

    public int game(int p) {
        Puzzle puzzle = puzzleAt(p);
        if (puzzle == null || gamesCome >= MOST_GAMES) {
            return NONE;
        }
        puzzle.begun = true;
        games[gamesCome] = new Game(p, puzzle);
        gamesCome++;
        return gamesCome - 1;
    }

    public boolean mark(int g, int cell, int colour) {
        Game game = gameAt(g);
        if (game == null || !game.puzzle.hasCell(cell) || colour < NONE || colour > game.puzzle.colours) {
            return false;
        }
        return game.change(cell, colour);
    }

    public int marked(int g, int cell) {
        Game game = gameAt(g);
        return game == null || !game.puzzle.hasCell(cell) ? NONE : game.marks[cell];
    }

    public int undo(int g) {
        Game game = gameAt(g);
        return game == null ? NONE : game.takeBack();
    }

    public int redo(int g) {
        Game game = gameAt(g);
        return game == null ? NONE : game.doAgain();
    }

    public int hint(int g) {
        Game game = gameAt(g);
        if (game == null) {
            return NONE;
        }
        int advice = adviceFor(game);
        if (advice != NONE) {
            game.hintCount++;
        }
        return advice;
    }

    public int state(int g, int what) {
        Game game = gameAt(g);
        if (game == null) {
            return NONE;
        }
        switch (what) {
            case 0:
                return game.puzzleNumber;
            case 1:
                return game.markedCells();
            case 2:
                return brokenLines(game);
            case 3:
                return game.markedCells() == game.puzzle.cells && brokenLines(game) == 0 ? 1 : 0;
            case 4:
                return game.done;
            case 5:
                return game.known - game.done;
            case 6:
                return game.hintCount;
            default:
                return NONE;
        }
    }

    public int write(int p, int line) {
        Line place = lineAt(puzzleAt(p), line);
        if (place == null) {
            return NONE;
        }
        sheet.setLength(0);
        for (int i = 0; i < place.runs; i++) {
            if (i > 0) {
                sheet.append(' ');
            }
            sheet.append(place.lengths[i]);
            sheet.append((char) ('a' + place.colours[i] - 1));
        }
        if (place.runs == 0) {
            sheet.append('0');
        }
        return sheet.length();
    }

    public int out(int i) {
        return i < 0 || i >= sheet.length() ? NONE : sheet.charAt(i);
    }

    public int count(int what) {
        if (what == 0) {
            return puzzlesCome;
        }
        return what == 1 ? gamesCome : NONE;
    }

    private Puzzle puzzleAt(int p) {
        return p < 0 || p >= puzzlesCome ? null : puzzles[p];
    }

    private static Line lineAt(Puzzle puzzle, int line) {
        return puzzle == null || line < 0 || line >= puzzle.lines.length ? null : puzzle.lines[line];
    }

    private Game gameAt(int g) {
        return g < 0 || g >= gamesCome ? null : games[g];
    }

    private boolean canCome(int width, int height, int colours) {
        return puzzlesCome < MOST_PUZZLES
            && width >= 1 && width <= MOST_SIDE
            && height >= 1 && height <= MOST_SIDE
            && colours >= 1 && colours <= MOST_COLOURS;
    }

    private int admit(Puzzle puzzle) {
        puzzles[puzzlesCome] = puzzle;
        puzzlesCome++;
        return puzzlesCome - 1;
    }

    /** Copies a corner of the canvas to the scratch cells, as a puzzle numbers them; false if a colour is too high. */
    private boolean cutCanvas(int width, int height, int colours) {
        for (int y = 0; y < height; y++) {
            for (int x = 0; x < width; x++) {
                int colour = canvas[y * MOST_SIDE + x];
                if (colour > colours) {
                    return false;
                }
                scratch[y * width + x] = colour;
            }
        }
        return true;
    }

    /** Each line is weighed by the marks alone: what one line forces doesn't reach the next one. */
    private int adviceFor(Game game) {
        game.marksAsSets(scratch);
        Line[] lines = game.puzzle.lines;
        for (int k = 0; k < lines.length; k++) {
            if (!scan.weigh(lines[k], scratch)) {
                return -2 - k;
            }
            for (int i = 0; i < lines[k].length; i++) {
                int cell = lines[k].cellAt(i);
                if (game.marks[cell] == NONE && isOne(scan.kept[i])) {
                    return 4 * cell + firstOf(scan.kept[i]);
                }
            }
        }
        return NONE;
    }

    private int brokenLines(Game game) {
        game.marksAsSets(scratch);
        Line[] lines = game.puzzle.lines;
        int broken = 0;
        for (int k = 0; k < lines.length; k++) {
            if (!scan.weigh(lines[k], scratch)) {
                broken++;
            }
        }
        return broken;
    }

    private static boolean isOne(int set) {
        return Integer.bitCount(set) == 1;
    }

    private static boolean holds(int set, int colour) {
        return (set & (1 << colour)) != 0;
    }

    private static int firstOf(int set) {
        for (int colour = 0; colour <= MOST_COLOURS; colour++) {
            if (holds(set, colour)) {
                return colour;
            }
        }
        return NONE;
    }

    /**
     * A line's cells and clues. The clues are kept as a chain of places too, a bit each: gap, the cells of the first
     * run, gap, the cells of the second run, .. gap. A filling walks the chain, one place a cell, and in one way only:
     * it goes on by one, stays in a gap, or jumps over a gap between runs of two colours.
     */
    private static final class Line {
        final int first;
        final int stride;
        final int length;
        final int crossing;
        final int[] colours;
        final int[] lengths;
        final int[] placesBySet;
        int runs;
        int cellsNeeded;
        int lastPlace;
        int gaps;
        int jumps;
        int ends;

        Line(int first, int stride, int length, int crossing) {
            this.first = first;
            this.stride = stride;
            this.length = length;
            this.crossing = crossing;
            colours = new int[length];
            lengths = new int[length];
            placesBySet = new int[SETS];
            runs = 0;
            cellsNeeded = 0;
            lastPlace = 0;
            gaps = 0;
            jumps = 0;
            ends = 1;
            addGap();
        }

        int cellAt(int i) {
            return first + i * stride;
        }

        /** False, and nothing changes, if no filling has the runs with this one at their end. */
        boolean append(int colour, int runLength) {
            boolean touching = runs > 0 && colours[runs - 1] != colour;
            int apart = runs == 0 || touching ? 0 : 1;
            if (runLength < 1 || runLength > length - cellsNeeded - apart) {
                return false;
            }
            if (touching) {
                jumps |= 1 << (lastPlace - 1);
            }
            for (int i = 0; i < runLength; i++) {
                lastPlace++;
                addPlace(colour);
            }
            ends = 3 << lastPlace;
            lastPlace++;
            addGap();
            cellsNeeded += apart + runLength;
            colours[runs] = colour;
            lengths[runs] = runLength;
            runs++;
            return true;
        }

        /** Appends the runs that the line's cells have in a picture. */
        void readRuns(int[] picture) {
            int stretch = 0;
            for (int i = 0; i < length; i++) {
                int colour = picture[cellAt(i)];
                stretch++;
                boolean over = i + 1 == length || picture[cellAt(i + 1)] != colour;
                if (over && colour != 0) {
                    append(colour, stretch);
                }
                if (over) {
                    stretch = 0;
                }
            }
        }

        void copyRuns(Line other, boolean backwards) {
            for (int i = 0; i < other.runs; i++) {
                int from = backwards ? other.runs - 1 - i : i;
                append(other.colours[from], other.lengths[from]);
            }
        }

        boolean hasRunsOf(Line other, boolean backwards) {
            if (runs != other.runs) {
                return false;
            }
            for (int i = 0; i < runs; i++) {
                int from = backwards ? runs - 1 - i : i;
                if (colours[i] != other.colours[from] || lengths[i] != other.lengths[from]) {
                    return false;
                }
            }
            return true;
        }

        private void addGap() {
            gaps |= 1 << lastPlace;
            addPlace(0);
        }

        private void addPlace(int colour) {
            for (int set = 0; set < SETS; set++) {
                if (holds(set, colour)) {
                    placesBySet[set] |= 1 << lastPlace;
                }
            }
        }
    }

    private static final class Puzzle {
        final int width;
        final int height;
        final int colours;
        final int cells;
        final Line[] lines;
        final int[] desk;
        boolean begun;

        Puzzle(int width, int height, int colours) {
            this.width = width;
            this.height = height;
            this.colours = colours;
            cells = width * height;
            lines = new Line[height + width];
            for (int y = 0; y < height; y++) {
                lines[y] = new Line(y * width, 1, width, height);
            }
            for (int x = 0; x < width; x++) {
                lines[height + x] = new Line(x, width, height, 0);
            }
            desk = new int[cells];
            begun = false;
            clearDesk();
        }

        int full() {
            return (2 << colours) - 1;
        }

        void clearDesk() {
            Arrays.fill(desk, full());
        }

        boolean hasCell(int cell) {
            return cell >= 0 && cell < cells;
        }

        boolean deskHolds(int cell, int colour) {
            return hasCell(cell) && colour >= 0 && colour <= colours && holds(desk[cell], colour);
        }

        int allRuns() {
            int sum = 0;
            for (int k = 0; k < lines.length; k++) {
                sum += lines[k].runs;
            }
            return sum;
        }

        int decidedCells(int[] sets) {
            int decided = 0;
            for (int cell = 0; cell < cells; cell++) {
                if (isOne(sets[cell])) {
                    decided++;
                }
            }
            return decided;
        }

        /** The lines as bits. */
        int everyLine() {
            return (1 << lines.length) - 1;
        }

        /** The two lines of a cell, as bits. */
        int linesThrough(int cell) {
            int y = width < 1 ? 0 : cell / width;
            return (1 << y) | (1 << (height + cell - y * width));
        }

        Puzzle turned(int how) {
            boolean exchanged = (how & EXCHANGED) != 0;
            Puzzle other = new Puzzle(exchanged ? height : width, exchanged ? width : height, colours);
            for (int k = 0; k < other.lines.length; k++) {
                int source = sourceOf(k, how);
                other.lines[k].copyRuns(lines[source], isBackwards(source, how));
            }
            return other;
        }

        boolean turnsInto(Puzzle other, int how) {
            boolean exchanged = (how & EXCHANGED) != 0;
            if (other.width != (exchanged ? height : width) || other.height != (exchanged ? width : height)
                || other.colours != colours) {
                return false;
            }
            for (int k = 0; k < other.lines.length; k++) {
                int source = sourceOf(k, how);
                if (!other.lines[k].hasRunsOf(lines[source], isBackwards(source, how))) {
                    return false;
                }
            }
            return true;
        }

        /** Which line of this puzzle becomes a line of the turned one. */
        private int sourceOf(int line, int how) {
            boolean exchanged = (how & EXCHANGED) != 0;
            int rows = exchanged ? width : height;
            boolean isRow = line < rows;
            int i = isRow ? line : line - rows;
            if (isRow != exchanged) {
                return (how & UPSIDE_DOWN) != 0 ? height - 1 - i : i;
            }
            return height + ((how & MIRRORED) != 0 ? width - 1 - i : i);
        }

        private boolean isBackwards(int source, int how) {
            return (how & (source < height ? MIRRORED : UPSIDE_DOWN)) != 0;
        }
    }

    /** Weighs the fillings of one line by sets. */
    private static final class Scan {
        final int[] kept;
        private final int[] reached;
        private final int[] tally;

        Scan() {
            kept = new int[MOST_SIDE];
            reached = new int[MOST_SIDE + 1];
            tally = new int[MOST_PLACES];
        }

        /** Leaves in kept what a step leaves to each of the line's cells; false if the line is broken. */
        boolean weigh(Line line, int[] sets) {
            int gaps = line.gaps;
            int jumps = line.jumps;
            int at = 1;
            reached[0] = at;
            for (int i = 0; i < line.length; i++) {
                int next = (at << 1) | (at & gaps) | ((at & jumps) << 2);
                at = next & line.placesBySet[sets[line.cellAt(i)]];
                reached[i + 1] = at;
            }
            at &= line.ends;
            if (at == 0) {
                return false;
            }
            for (int i = line.length - 1; i >= 0; i--) {
                kept[i] = coloursOf(line, at);
                int before = (at >>> 1) | (at & gaps) | ((at >>> 2) & jumps);
                at = before & reached[i];
            }
            return true;
        }

        int countFillings(Line line, int[] sets) {
            Arrays.fill(tally, 0);
            tally[0] = 1;
            for (int i = 0; i < line.length; i++) {
                countOn(line, line.placesBySet[sets[line.cellAt(i)]]);
            }
            int sum = 0;
            for (int place = 0; place <= line.lastPlace; place++) {
                sum += (line.ends >>> place & 1) * tally[place];
            }
            return sum;
        }

        /** One cell more: places are counted from the last one down, since each takes from those ahead of it. */
        private void countOn(Line line, int allowed) {
            for (int place = line.lastPlace; place >= 0; place--) {
                int walks = (line.gaps >>> place & 1) * tally[place];
                if (place >= 1) {
                    walks += tally[place - 1];
                }
                if (place >= 2) {
                    walks += (line.jumps >>> (place - 2) & 1) * tally[place - 2];
                }
                tally[place] = (allowed >>> place & 1) * walks;
            }
        }

        private static int coloursOf(Line line, int places) {
            int set = 0;
            for (int colour = 0; colour <= MOST_COLOURS; colour++) {
                if ((places & line.placesBySet[1 << colour]) != 0) {
                    set |= 1 << colour;
                }
            }
            return set;
        }
    }

    /**
     * Takes steps and lets sets settle. A step of a line whose sets are as its own latest step left them takes
     * nothing, so only lines that wait, because a crossing line took something, are stepped.
     */
    private static final class Settler {
        private final Scan scan;
        private int waiting;

        Settler(Scan scan) {
            this.scan = scan;
            waiting = 0;
        }

        /** How many went, or BROKEN, and nothing goes. */
        int narrow(Line line, int[] sets) {
            if (!scan.weigh(line, sets)) {
                return BROKEN;
            }
            int gone = 0;
            for (int i = 0; i < line.length; i++) {
                int cell = line.cellAt(i);
                int lost = sets[cell] & ~scan.kept[i];
                if (lost != 0) {
                    gone += Integer.bitCount(lost);
                    sets[cell] = scan.kept[i];
                    waiting |= 1 << (line.crossing + i);
                }
            }
            return gone;
        }

        /** How many rounds took something, or BROKEN; all lines but the given ones must be at rest. */
        int bringToRest(Puzzle puzzle, int[] sets, int restless) {
            waiting = restless;
            int rounds = 0;
            for (int i = 0; i < FAR_END && waiting != 0; i++) {
                int gone = 0;
                for (int k = 0; k < puzzle.lines.length; k++) {
                    if ((waiting >>> k & 1) == 0) {
                        continue;
                    }
                    waiting &= ~(1 << k);
                    int lost = narrow(puzzle.lines[k], sets);
                    if (lost == BROKEN) {
                        return BROKEN;
                    }
                    gone += lost;
                }
                if (gone > 0) {
                    rounds++;
                }
            }
            return rounds;
        }
    }

    /** One search that is still open: its sets, at rest, the cell that is tried, and the colour to look at next. */
    private static final class Level {
        final int[] sets;
        int cell;
        private int nextColour;

        Level() {
            sets = new int[MOST_CELLS];
            cell = 0;
            nextColour = 0;
        }

        void pickCell(int cells) {
            int fewest = SETS;
            cell = 0;
            nextColour = 0;
            for (int i = 0; i < cells; i++) {
                int size = Integer.bitCount(sets[i]);
                if (size >= 2 && size < fewest) {
                    fewest = size;
                    cell = i;
                }
            }
        }

        /** The next colour of the cell's set that has had no try, or NONE. */
        int takeColour() {
            for (int colour = nextColour; colour <= MOST_COLOURS; colour++) {
                if (holds(sets[cell], colour)) {
                    nextColour = colour + 1;
                    return colour;
                }
            }
            nextColour = MOST_COLOURS + 1;
            return NONE;
        }
    }

    /** Searches depth first, with levels of its own in place of calls within calls. */
    private static final class Searcher {
        final int[] pictures;
        int pictureCount;
        int tryCount;
        int cells;
        private final Settler settler;
        // Each level has a cell more decided than the one above it, so there are at most as many below the first one.
        private final Level[] levels;

        Searcher(Settler settler) {
            this.settler = settler;
            pictures = new int[MOST_PICTURES * MOST_CELLS];
            levels = new Level[MOST_CELLS + 1];
            pictureCount = 0;
            tryCount = 0;
            cells = 0;
        }

        /** How many pictures were found, or OUT_OF_TRIES. */
        int seek(Puzzle puzzle, int tries, int limit) {
            pictureCount = 0;
            tryCount = 0;
            cells = puzzle.cells;
            Level top = levelAt(0);
            System.arraycopy(puzzle.desk, 0, top.sets, 0, cells);
            int depth = staysOpen(puzzle, top, puzzle.everyLine()) ? 0 : -1;
            for (int i = 0; i < FAR_END && depth >= 0 && depth < MOST_CELLS && pictureCount < limit; i++) {
                Level level = levelAt(depth);
                int colour = level.takeColour();
                if (colour == NONE) {
                    depth--;
                    continue;
                }
                if (tryCount == tries) {
                    return OUT_OF_TRIES;
                }
                tryCount++;
                Level below = levelAt(depth + 1);
                System.arraycopy(level.sets, 0, below.sets, 0, cells);
                below.sets[level.cell] = 1 << colour;
                if (staysOpen(puzzle, below, puzzle.linesThrough(level.cell))) {
                    depth++;
                }
            }
            return pictureCount;
        }

        /** Levels are made when a search first goes so deep, and used again. */
        private Level levelAt(int depth) {
            if (levels[depth] == null) {
                levels[depth] = new Level();
            }
            return levels[depth];
        }

        /** False if the level's sets are broken, or are a picture, which is kept then; else its cell is picked. */
        private boolean staysOpen(Puzzle puzzle, Level level, int restless) {
            if (settler.bringToRest(puzzle, level.sets, restless) == BROKEN) {
                return false;
            }
            if (puzzle.decidedCells(level.sets) == cells) {
                keepPicture(level.sets);
                return false;
            }
            level.pickCell(cells);
            return true;
        }

        private void keepPicture(int[] sets) {
            if (pictureCount >= MOST_PICTURES) {
                return;
            }
            for (int cell = 0; cell < cells; cell++) {
                pictures[pictureCount * MOST_CELLS + cell] = firstOf(sets[cell]);
            }
            pictureCount++;
        }
    }

    private static final class Grader {
        int probeCount;
        private final Settler settler;
        private final int[] sets;
        private final int[] trial;

        Grader(Settler settler) {
            this.settler = settler;
            sets = new int[MOST_CELLS];
            trial = new int[MOST_CELLS];
            probeCount = 0;
        }

        int assess(Puzzle puzzle) {
            probeCount = 0;
            Arrays.fill(sets, puzzle.full());
            if (settler.bringToRest(puzzle, sets, puzzle.everyLine()) == BROKEN) {
                return 0;
            }
            if (puzzle.decidedCells(sets) == puzzle.cells) {
                return 1;
            }
            int taken = 1;
            for (int pass = 0; pass < FAR_END && taken > 0; pass++) {
                taken = passOfProbes(puzzle);
            }
            if (taken == BROKEN) {
                return 0;
            }
            if (taken == OUT_OF_PROBES) {
                return 4;
            }
            return puzzle.decidedCells(sets) == puzzle.cells ? 2 : 3;
        }

        /** How many colours its probes took, or BROKEN, or OUT_OF_PROBES. */
        private int passOfProbes(Puzzle puzzle) {
            int taken = 0;
            for (int cell = 0; cell < puzzle.cells; cell++) {
                for (int colour = 0; colour <= puzzle.colours; colour++) {
                    if (!holds(sets[cell], colour) || isOne(sets[cell])) {
                        continue;
                    }
                    if (probeCount >= MOST_PROBES) {
                        return OUT_OF_PROBES;
                    }
                    probeCount++;
                    System.arraycopy(sets, 0, trial, 0, puzzle.cells);
                    trial[cell] = 1 << colour;
                    if (settler.bringToRest(puzzle, trial, puzzle.linesThrough(cell)) != BROKEN) {
                        continue;
                    }
                    taken++;
                    sets[cell] &= ~(1 << colour);
                    if (settler.bringToRest(puzzle, sets, puzzle.linesThrough(cell)) == BROKEN) {
                        return BROKEN;
                    }
                }
            }
            return taken;
        }
    }

    /** A player's marks, and their changes: those below done can be taken back, the others done again. */
    private static final class Game {
        final int puzzleNumber;
        final Puzzle puzzle;
        final int[] marks;
        int done;
        int known;
        int hintCount;
        private final int[] changedCells;
        private final int[] marksBefore;
        private final int[] marksAfter;

        Game(int puzzleNumber, Puzzle puzzle) {
            this.puzzleNumber = puzzleNumber;
            this.puzzle = puzzle;
            marks = new int[puzzle.cells];
            Arrays.fill(marks, NONE);
            changedCells = new int[MOST_CHANGES];
            marksBefore = new int[MOST_CHANGES];
            marksAfter = new int[MOST_CHANGES];
            done = 0;
            known = 0;
            hintCount = 0;
        }

        boolean change(int cell, int colour) {
            if (marks[cell] == colour || done >= MOST_CHANGES) {
                return false;
            }
            changedCells[done] = cell;
            marksBefore[done] = marks[cell];
            marksAfter[done] = colour;
            marks[cell] = colour;
            done++;
            known = done;
            return true;
        }

        int takeBack() {
            if (done <= 0) {
                return NONE;
            }
            done--;
            int cell = changedCells[done];
            marks[cell] = marksBefore[done];
            return cell;
        }

        int doAgain() {
            if (done >= known) {
                return NONE;
            }
            int cell = changedCells[done];
            marks[cell] = marksAfter[done];
            done++;
            return cell;
        }

        int markedCells() {
            int number = 0;
            for (int cell = 0; cell < marks.length; cell++) {
                if (marks[cell] != NONE) {
                    number++;
                }
            }
            return number;
        }

        void marksAsSets(int[] sets) {
            for (int cell = 0; cell < marks.length; cell++) {
                sets[cell] = marks[cell] == NONE ? puzzle.full() : 1 << marks[cell];
            }
        }
    }
}
