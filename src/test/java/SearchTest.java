/** Promises 13 to 17: search, found, picture, grade, probes. */
public final class SearchTest {
    private static final int MOST = Integer.MAX_VALUE;
    private static final int LEAST = Integer.MIN_VALUE;

    public static void main(String[] args) {
        twoPictures();
        limits();
        deskStays();
        nothingFound();
        refusedSearch();
        oneTryAfterAnother();
        grades();
        fourHundredProbes();
        brokenByProbes();
        gradeIsByFullSets();
        Check.end("SearchTest");
    }

    private static int twoByTwo(RunPictures x) {
        return Pictures.given(x, 2, 2, 1, "1a", "1a", "1a", "1a");
    }

    private static int threeByThree(RunPictures x) {
        return Pictures.given(x, 3, 3, 1, "1a", "1a", "1a", "1a", "1a", "1a");
    }

    private static void twoPictures() {
        RunPictures x = new RunPictures();
        int p = twoByTwo(x);
        Check.due("search", x.search(p, 200, 5), 2);
        Check.due("found", x.found(-1), 2);
        Check.due("tries", x.found(-2), 2);
        Pictures.same("first picture", Pictures.found(x, 0), "0110");
        Pictures.same("second picture", Pictures.found(x, 1), "1001");
        Check.due("exactly enough tries", x.search(p, 2, 5), 2);
        Check.due("a try too few", x.search(p, 1, 5), -2);
        Check.due("found when out of tries", x.found(-1), 1);
        Check.due("tries when out of tries", x.found(-2), 1);
        Pictures.same("its picture", Pictures.found(x, 0), "0110");
        Check.due("no second one", x.picture(1, 0), -1);
        Check.due("no tries", x.search(p, 0, 1), -2);
        Check.due("found without tries", x.found(-1), 0);
        int[] wrong = {0, 1, -3, MOST, LEAST};
        for (int what : wrong) {
            Check.due("found " + what, x.found(what), -1);
        }
    }

    private static void limits() {
        RunPictures x = new RunPictures();
        int p = threeByThree(x);
        // By hand: cell 0 blank, 1 blank, 3 blank: the first one; 3 full: the second one; 1 full, 3 blank: the third one ..
        int[] tries = {3, 4, 6, 7, 9};
        for (int limit = 1; limit <= 5; limit++) {
            Check.due("search with limit " + limit, x.search(p, 200, limit), limit);
            Check.due("found", x.found(-1), limit);
            Check.due("tries with limit " + limit, x.found(-2), tries[limit - 1]);
            Check.due("no tries left over", x.search(p, tries[limit - 1], limit), limit);
            Check.due("a try too few", x.search(p, tries[limit - 1] - 1, limit), -2);
            Check.due("found with a try too few", x.found(-1), limit - 1);
        }
        x.search(p, 200, 5);
        String[] pictures = {"001010100", "001100010", "010001100", "010100001", "100001010"};
        for (int i = 0; i < pictures.length; i++) {
            Pictures.same("picture " + i, Pictures.found(x, i), pictures[i]);
        }
        Check.due("picture 5", x.picture(5, 0), -1);
        Check.due("picture -1", x.picture(-1, 0), -1);
        Check.due("picture MAX", x.picture(MOST, 0), -1);
        Check.due("cell 9", x.picture(0, 9), -1);
        Check.due("cell -1", x.picture(0, -1), -1);
        Check.due("cell MIN", x.picture(0, LEAST), -1);
    }

    private static void deskStays() {
        RunPictures x = new RunPictures();
        int p = twoByTwo(x);
        x.choose(p, 3, 1);
        Check.due("search by the desk", x.search(p, 0, 5), 1);
        Pictures.same("picture", Pictures.found(x, 0), "1001");
        Pictures.same("desk", Pictures.desk(x, p), "3332");
        x.puzzle(1, 1, 1);
        x.fresh(p);
        x.run(1, 0, 1, 1);
        Pictures.same("the picture stays", Pictures.found(x, 0), "1001");
    }

    private static void nothingFound() {
        RunPictures x = new RunPictures();
        int p = Pictures.given(x, 3, 1, 1, "2a", "1a", "0", "1a");
        Check.due("search of a broken one", x.search(p, 0, 1), 0);
        Check.due("found", x.found(-1), 0);
        Check.due("tries", x.found(-2), 0);
        Check.due("picture", x.picture(0, 0), -1);
        int q = x.puzzle(1, 1, 3);
        Check.due("search of an empty one", x.search(q, 0, 1), 1);
        Check.due("its picture", x.picture(0, 0), 0);
        Check.due("a cell outside", x.picture(0, 1), -1);
    }

    private static void refusedSearch() {
        RunPictures x = new RunPictures();
        int p = twoByTwo(x);
        x.search(p, 200, 5);
        int[] wrongTries = {-1, 201, MOST, LEAST};
        for (int tries : wrongTries) {
            Check.due("search with tries " + tries, x.search(p, tries, 1), -1);
        }
        int[] wrongLimits = {0, 6, -1, MOST, LEAST};
        for (int limit : wrongLimits) {
            Check.due("search with limit " + limit, x.search(p, 1, limit), -1);
        }
        int[] wrongPuzzles = {-1, 1, MOST, LEAST};
        for (int number : wrongPuzzles) {
            Check.due("search of puzzle " + number, x.search(number, 1, 1), -1);
            Check.due("grade of puzzle " + number, x.grade(number), -1);
        }
        Check.due("found", x.found(-1), 2);
        Check.due("tries", x.found(-2), 2);
        Pictures.same("picture", Pictures.found(x, 1), "1001");
    }

    /** The sets are the whole colours' ones, and of cells with as many the first one is tried. */
    private static void oneTryAfterAnother() {
        RunPictures x = new RunPictures();
        int p = Pictures.given(x, 2, 2, 2, "1a", "1b", "1a", "1b");
        Check.due("search of one that settles", x.search(p, 0, 5), 1);
        Pictures.same("its picture", Pictures.found(x, 0), "1002");
        int q = Pictures.given(x, 4, 2, 1, "2a", "1a 1a", "1a", "1a", "1a", "1a");
        Check.due("search of one that needs tries", x.search(q, 200, 5), 1);
        Check.due("its tries", x.found(-2), 2);
        Pictures.same("its picture", Pictures.found(x, 0), "01101001");
        int r = Pictures.given(x, 2, 2, 2, "1a 1b", "1b 1a", "1a 1b", "1b 1a");
        x.bar(r, 0, 0);
        Check.due("search by barred sets", x.search(r, 0, 5), 1);
        Pictures.same("its picture", Pictures.found(x, 0), "1221");
    }

    private static void grades() {
        RunPictures x = new RunPictures();
        Check.due("probes ahead of any", x.probes(), 0);
        int broken = Pictures.given(x, 2, 1, 1, "2a", "1a", "0");
        Check.due("grade 0", x.grade(broken), 0);
        Check.due("its probes", x.probes(), 0);
        int p = Pictures.make(x, 1, "0110/1001");
        Check.due("grade 2", x.grade(p), 2);
        Check.due("its probes", x.probes(), 2);
        Check.due("no such puzzle", x.grade(7), -1);
        Check.due("the probes stay", x.probes(), 2);
        Check.due("grade 3", x.grade(twoByTwo(x)), 3);
        Check.due("its probes", x.probes(), 8);
        Check.due("grade 1", x.grade(Pictures.make(x, 2, "010/212/010")), 1);
        Check.due("its probes", x.probes(), 0);
        int most = Pictures.make(x, 1, "1000000000/0100000000/0010000000/0001000000/0000100000/"
            + "0000010000/0000001000/0000000100/0000000010/0000000001");
        Check.due("a one in each line", x.grade(most), 3);
        Check.due("its probes", x.probes(), 200);
        int twice = Pictures.make(x, 1, "000100/101010/001011/010010/000100");
        Check.due("grade 2 with more probes", x.grade(twice), 2);
        Check.due("its probes", x.probes(), 12);
    }

    private static void fourHundredProbes() {
        RunPictures x = new RunPictures();
        int just = Pictures.make(x, 2, "20110000/00101200/10000000/00000100/20000110/00002120/00001000/00000001/02100002");
        Check.due("a grade with the last probe", x.grade(just), 3);
        Check.due("its probes", x.probes(), 400);
        int over = Pictures.make(x, 1, "100000/101100/000101/001010/010001/010110/010100/001000");
        Check.due("grade 4", x.grade(over), 4);
        Check.due("its probes", x.probes(), 400);
    }

    /** The clues of a picture, one column's backwards: it settles, but a probe shows that there is no picture. */
    private static void brokenByProbes() {
        RunPictures x = new RunPictures();
        int p = Pictures.make(x, 1, "10/10/10/11/01/10/01");
        Pictures.same("clues", Pictures.lines(x, p), "1a/1a/1a/2a/1a/1a/1a/4a 1a/2a 1a");
        int q = Pictures.given(x, 2, 7, 1, "1a", "1a", "1a", "2a", "1a", "1a", "1a", "4a 1a", "1a 2a");
        Check.due("settle", x.settle(q) >= 0, true);
        Check.due("told", x.told(q, 4) < 14, true);
        Check.due("grade 0 by probes", x.grade(q), 0);
        Check.due("its probes", x.probes(), 1);
        Check.due("search", x.search(q, 200, 1), 0);
    }

    private static void gradeIsByFullSets() {
        RunPictures x = new RunPictures();
        int p = twoByTwo(x);
        x.choose(p, 0, 1);
        Check.due("grade", x.grade(p), 3);
        Check.due("probes", x.probes(), 8);
        Pictures.same("desk", Pictures.desk(x, p), "2333");
        x.choose(p, 1, 1);
        Check.due("grade with a broken desk", x.grade(p), 3);
    }
}
