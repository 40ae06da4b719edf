/** Puzzles from pictures and clues that are written as texts, for the tests of this folder. */
final class Pictures {
    private Pictures() {
    }

    /** Rows of digits with '/' between them. */
    static int make(RunPictures x, int colours, String picture) {
        String[] rows = picture.split("/");
        for (int y = 0; y < rows.length; y++) {
            for (int i = 0; i < rows[y].length(); i++) {
                x.paint(i, y, rows[y].charAt(i) - '0');
            }
        }
        return x.make(rows[0].length(), rows.length, colours);
    }

    /** Clues as write() writes them, a text a line. */
    static int given(RunPictures x, int width, int height, int colours, String... clues) {
        int p = x.puzzle(width, height, colours);
        for (int line = 0; line < clues.length; line++) {
            if (clues[line].equals("0")) {
                continue;
            }
            for (String run : clues[line].split(" ")) {
                int last = run.length() - 1;
                Check.holds("run " + run + " comes to line " + line,
                    x.run(p, line, run.charAt(last) - 'a' + 1, Integer.parseInt(run.substring(0, last))) > 0);
            }
        }
        return p;
    }

    static String written(RunPictures x, int p, int line) {
        int signs = x.write(p, line);
        StringBuilder text = new StringBuilder();
        for (int i = 0; i < signs; i++) {
            text.append((char) x.out(i));
        }
        Check.due("out behind the last sign", x.out(signs), -1);
        return text.toString();
    }

    static String lines(RunPictures x, int p) {
        StringBuilder text = new StringBuilder();
        for (int line = 0; line < x.told(p, 0) + x.told(p, 1); line++) {
            text.append(line == 0 ? "" : "/").append(written(x, p, line));
        }
        return text.toString();
    }

    static String found(RunPictures x, int i) {
        StringBuilder text = new StringBuilder();
        for (int cell = 0; x.picture(i, cell) >= 0; cell++) {
            text.append(x.picture(i, cell));
        }
        return text.toString();
    }

    /** The desk's sets, a sign a cell. */
    static String desk(RunPictures x, int p) {
        StringBuilder text = new StringBuilder();
        for (int cell = 0; x.set(p, cell) > 0; cell++) {
            text.append(Integer.toHexString(x.set(p, cell)));
        }
        return text.toString();
    }

    static void same(String what, String got, String want) {
        Check.holds(what + " is '" + want + "', but was '" + got + "'", got.equals(want));
    }
}
