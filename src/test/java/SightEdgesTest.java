/** The edges of "2 EYE" and of promises 5 to 11, sentence by sentence. */
public final class SightEdgesTest {
    public static void main(String[] args) {
        leastAndGreatestEye();
        noFartherThanTheMist();
        howManyInTheMist();
        daysOfMist();
        lastDayOfMist();
        severalMists();
        firstRowIsNeverBlocked();
        linesToTheNearest();
        linesOverTwelveRows();
        higherBlocks();
        ownCellBlocksNot();
        blockerOfTheLeastZ();
        blockerLooksAtNoMist();
        ownersByAll();
        ownersByTheNearest();
        ownersByTheHighest();
        ownersAreAmongThoseWhoSee();
        sharesAreCut();
        freeCells();
        whatIsAsked();
        Due.end("SightEdgesTest");
    }

    /** "ground and STOREYS times their height, and 1". */
    private static void leastAndGreatestEye() {
        Due.due("EYE of nothing", Due.lakeOf("lake 1 1;door 0 0 0;storey 20 0;").man(0, 3), 1);
        Due.due("EYE of ground", Due.lakeOf("lake 1 1;door 0 99 0;storey 20 0;").man(0, 3), 100);
        Due.due("EYE of STOREYS", Due.lakeOf("lake 1 1;door 0 0 9;storey 20 0;").man(0, 3), 181);
        Due.due("EYE of all", Due.lakeOf("lake 1 1;door 0 99 9;storey 20 0;").man(0, 3), 280);
        Due.due("EYE of low STOREYS", Due.lakeOf("lake 1 1;door 0 0 9;storey 1 0;").man(0, 3), 10);
        Due.due("EYE, untold", Due.lakeOf("lake 1 1;door 0 2 1;").man(0, 3), 6);
    }

    /** "no farther than the DAY's mist lets: the greater one of X less a, without its sign, and Y and 1". */
    private static void noFartherThanTheMist() {
        SeenWaters w = Due.lakeOf("lake 12 5;door 5 0 0;mist 0 0 3;");
        int[][] seen = {{8, 0}, {2, 0}, {5, 2}, {8, 2}, {2, 2}};
        int[][] hidden = {{9, 0}, {1, 0}, {5, 3}, {8, 3}, {2, 3}, {9, 2}, {1, 2}};
        for (int[] at : seen) {
            Due.due("sees(0, " + at[0] + ", " + at[1] + ")", w.sees(0, at[0], at[1]), 1);
            Due.due("its SET", w.cell(at[0], at[1], 2), 1);
        }
        for (int[] at : hidden) {
            Due.due("sees(0, " + at[0] + ", " + at[1] + ")", w.sees(0, at[0], at[1]), 0);
            Due.due("its SET", w.cell(at[0], at[1], 2), 0);
        }
    }

    private static void howManyInTheMist() {
        int[] wide = {0, 3, 10, 21, 36, 55, 60};
        int[] deep = {0, 3, 10, 15, 20, 25, 30, 35, 40, 45, 50, 55, 60};
        for (int far = 0; far <= 20; far++) {
            SeenWaters w = Due.lakeOf("lake 12 5;door 5 0 0;mist 0 0 " + far + ";");
            Due.due("man(0, 5), R " + far, w.man(0, 5), wide[Math.min(far, 6)]);
            Due.due("told(10), R " + far, w.told(10), 60 - wide[Math.min(far, 6)]);
            SeenWaters d = Due.lakeOf("lake 5 12;door 2 0 0;mist 0 0 " + far + ";");
            Due.due("man(0, 5), R " + far, d.man(0, 5), deep[Math.min(far, 12)]);
        }
    }

    private static void goTo(SeenWaters w, int day) {
        for (int now = w.told(5); now < day; now = w.told(5)) {
            w.day(Math.min(99, day - now));
        }
    }

    /** "on DAYS A to B": both of them, and none beside. "DAYS are counted from 0". */
    private static void daysOfMist() {
        SeenWaters w = Due.lakeOf("lake 3 2;door 1 0 0;mist 2 4 1;mist 6 6 0;");
        int[] far = {Due.NONE, Due.NONE, 1, 1, 1, Due.NONE, 0, Due.NONE};
        int[] seen = {6, 6, 3, 3, 3, 6, 0, 6};
        for (int day = 0; day < far.length; day++) {
            goTo(w, day);
            Due.due("told(5)", w.told(5), day);
            Due.due("told(6) on DAY " + day, w.told(6), far[day]);
            Due.due("man(0, 5) on DAY " + day, w.man(0, 5), seen[day]);
        }
        Due.due("told(6) on DAY 0", Due.lakeOf("lake 1 1;mist 0 0 7;").told(6), 7);
    }

    private static void lastDayOfMist() {
        SeenWaters w = Due.lakeOf("lake 3 2;door 1 0 0;mist 998 999 1;");
        int[] days = {997, 998, 999, 1000, 1001};
        int[] far = {Due.NONE, 1, 1, Due.NONE, Due.NONE};
        for (int k = 0; k < days.length; k++) {
            goTo(w, days[k]);
            Due.due("told(6) on DAY " + days[k], w.told(6), far[k]);
            Due.due("sees(0, 1, 1) on DAY " + days[k], w.sees(0, 1, 1), far[k] == 1 ? 0 : 1);
        }
    }

    /** "several 'mist' of one DAY: the least R; none: all". */
    private static void severalMists() {
        String[] texts = {"mist 0 2 9;mist 1 3 4;mist 1 1 20;", "mist 1 1 20;mist 1 3 4;mist 0 2 9;", "mist 1 3 4;mist 0 2 9;mist 1 1 20;"};
        int[] far = {9, 4, 4, 4, Due.NONE};
        for (String text : texts) {
            SeenWaters w = Due.lakeOf("lake 1 1;" + text);
            for (int day = 0; day < far.length; day++) {
                goTo(w, day);
                Due.due("told(6) on DAY " + day + " of " + text, w.told(6), far[day]);
            }
        }
        Due.due("R 0 is the least of all", Due.lakeOf("lake 1 1;mist 0 0 1;mist 0 0 0;").told(6), 0);
        Due.due("R 0 is the least of all", Due.lakeOf("lake 1 1;mist 0 0 0;mist 0 0 1;").told(6), 0);
    }

    /** "for each Z from 0 to Y less 1": for Y 0 there is none. */
    private static void firstRowIsNeverBlocked() {
        SeenWaters w = Due.lakeOf("lake 4 2;door 0 0 0;stand 0 0 99;stand 1 0 99;stand 2 0 99;stand 3 0 99;");
        for (int x = 0; x < 4; x++) {
            Due.due("sees(0, " + x + ", 0)", w.sees(0, x, 0), 1);
            Due.due("blocker(0, " + x + ", 0)", w.blocker(0, x, 0), Due.NONE);
            Due.due("sees(0, " + x + ", 1)", w.sees(0, x, 1), 0);
        }
    }

    /** In each row Z the line goes over the one CELL that is told, and over no other. */
    private static void line(String lake, int x, int y, int... overs) {
        SeenWaters w = Due.lakeOf(lake);
        Due.due("rows ahead of Y " + y, overs.length, y);
        for (int z = 0; z < y; z++) {
            for (int over = 0; over < w.told(0); over++) {
                w.plant(over, z, 1);
                int want = over == overs[z] ? 100 * over + z : Due.NONE;
                Due.due(lake + " to " + x + ", " + y + " by " + over + ", " + z, w.blocker(0, x, y), want);
                w.plant(over, z, 0);
            }
        }
    }

    /** "to the nearest (of two as near the greater)", to both sides. */
    private static void linesToTheNearest() {
        String mid = "lake 12 5;door 5 0 0;";
        line(mid, 5, 0);
        line(mid, 6, 1, 6);
        line(mid, 4, 1, 5);
        line(mid, 7, 1, 6);
        line(mid, 3, 1, 4);
        line(mid, 8, 1, 7);
        line(mid, 2, 1, 4);
        line(mid, 0, 1, 3);
        line(mid, 6, 2, 5, 6);
        line(mid, 4, 2, 5, 4);
        line(mid, 7, 2, 6, 6);
        line(mid, 3, 2, 4, 4);
        line(mid, 6, 3, 5, 6, 6);
        line(mid, 4, 3, 5, 5, 4);
        line(mid, 0, 3, 4, 3, 1);
        line(mid, 11, 4, 6, 7, 9, 10);
        line(mid, 0, 4, 4, 3, 2, 1);
        line("lake 12 5;door 0 0 0;", 11, 1, 6);
        line("lake 12 5;door 0 0 0;", 11, 4, 2, 4, 7, 9);
        line("lake 12 5;door 11 0 0;", 0, 1, 6);
        line("lake 12 5;door 11 0 0;", 0, 4, 9, 7, 4, 2);
    }

    private static void linesOverTwelveRows() {
        line("lake 5 12;door 0 0 0;", 4, 11, 0, 1, 1, 1, 2, 2, 2, 3, 3, 3, 4);
        line("lake 5 12;door 4 0 0;", 0, 11, 4, 3, 3, 3, 2, 2, 2, 1, 1, 1, 0);
        line("lake 2 12;door 0 0 0;", 1, 11, 0, 0, 0, 0, 0, 1, 1, 1, 1, 1, 1);
        line("lake 2 12;door 1 0 0;", 0, 11, 1, 1, 1, 1, 1, 1, 0, 0, 0, 0, 0);
        line("lake 1 12;door 0 0 0;", 0, 11, 0, 0, 0, 0, 0, 0, 0, 0, 0, 0, 0);
    }

    /** "EYE times (Y less Z) / (Y and 1) high, exactly; what stands there and is higher blocks it". */
    private static void higherBlocks() {
        // EYE, Y, Z, the highest that does not block.
        int[][] cases = {{1, 1, 0, 0}, {2, 1, 0, 1}, {3, 1, 0, 1}, {4, 1, 0, 2}, {1, 11, 0, 0}, {12, 11, 0, 11}, {11, 11, 0, 10},
            {12, 11, 10, 1}, {11, 11, 10, 0}, {13, 11, 10, 1}, {24, 11, 10, 2}, {23, 11, 10, 1}, {100, 2, 0, 66}, {100, 2, 1, 33},
            {99, 2, 0, 66}, {98, 2, 0, 65}, {99, 2, 1, 33}, {98, 2, 1, 32}, {100, 6, 3, 42}, {98, 6, 3, 42}, {97, 6, 3, 41}};
        for (int[] c : cases) {
            SeenWaters w = Due.lakeOf("lake 1 12;door 0 " + (c[0] - 1) + " 0;");
            w.plant(0, c[2], c[3]);
            Due.due("EYE " + c[0] + " over " + c[3] + " in row " + c[2] + " to " + c[1], w.blocker(0, 0, c[1]), Due.NONE);
            Due.due("it SEES it", w.sees(0, 0, c[1]), 1);
            w.plant(0, c[2], c[3] + 1);
            Due.due("EYE " + c[0] + " over " + (c[3] + 1) + " in row " + c[2] + " to " + c[1], w.blocker(0, 0, c[1]), c[2]);
            Due.due("it SEES it not", w.sees(0, 0, c[1]), 0);
        }
        // 99, the highest thing, at the half of EYE 198 and of EYE 197.
        SeenWaters most = Due.lakeOf("lake 1 2;storey 1 0;door 0 99 9;door 0 97 9;stand 0 0 54;");
        Due.due("EYE 109 over 54", most.sees(0, 0, 1), 1);
        Due.due("EYE 107 over 54", most.sees(1, 0, 1), 0);
        SeenWaters high = Due.lakeOf("lake 1 2;storey 14 0;door 0 71 9;door 0 70 9;stand 0 0 99;");
        Due.due("EYE 198 over 99", high.sees(0, 0, 1), 1);
        Due.due("EYE 197 over 99", high.sees(1, 0, 1), 0);
    }

    /** "(What stands in the CELL itself does not.)" */
    private static void ownCellBlocksNot() {
        SeenWaters w = Due.lakeOf("lake 1 4;door 0 0 0;stand 0 2 99;");
        Due.due("sees(0, 0, 2)", w.sees(0, 0, 2), 1);
        Due.due("blocker(0, 0, 2)", w.blocker(0, 0, 2), Due.NONE);
        Due.due("sees(0, 0, 1)", w.sees(0, 0, 1), 1);
        Due.due("sees(0, 0, 3)", w.sees(0, 0, 3), 0);
        Due.due("blocker(0, 0, 3)", w.blocker(0, 0, 3), 2);
    }

    /** "BLOCKER: the CELL of the least Z that blocks it"; "100 times its X and its Y". */
    private static void blockerOfTheLeastZ() {
        SeenWaters w = Due.lakeOf("lake 12 5;door 11 0 0;stand 11 0 9;stand 11 1 9;stand 11 3 9;");
        int[] by = {1100, 1101, 1103};
        for (int k = 0; k < by.length; k++) {
            Due.due("blocker(0, 11, 4)", w.blocker(0, 11, 4), by[k]);
            w.plant(11, by[k] % 100, 0);
        }
        Due.due("blocker(0, 11, 4)", w.blocker(0, 11, 4), Due.NONE);
        w.plant(10, 3, 1);
        Due.due("blocker beside the line", w.blocker(0, 11, 4), Due.NONE);
        SeenWaters deep = Due.lakeOf("lake 1 12;door 0 0 0;stand 0 10 1;");
        Due.due("blocker in the last row but one", deep.blocker(0, 0, 11), 10);
        // What stands lower in a lesser row does not block, though something stands there.
        SeenWaters low = Due.lakeOf("lake 1 4;door 0 7 0;stand 0 0 6;stand 0 1 4;stand 0 2 3;");
        Due.due("blocker over 6 and 4", low.blocker(0, 0, 3), 2);
    }

    /** "NONE: nothing blocks it (mist is not looked at)". */
    private static void blockerLooksAtNoMist() {
        SeenWaters w = Due.lakeOf("lake 2 3;door 0 0 0;stand 0 1 9;mist 0 0 0;");
        Due.due("blocker(0, 0, 2) in mist", w.blocker(0, 0, 2), 1);
        Due.due("blocker(0, 1, 1) in mist", w.blocker(0, 1, 1), Due.NONE);
        Due.due("blocker(0, 0, 0) in mist", w.blocker(0, 0, 0), Due.NONE);
        Due.due("sees(0, 0, 0) in mist", w.sees(0, 0, 0), 0);
        Due.due("sees(0, 0, 2) in mist", w.sees(0, 0, 2), 0);
    }

    private static final String SIX = "door 0 0 0;door 0 0 0;door 0 0 0;door 0 0 0;door 0 0 0;door 0 0 0;";

    /** "LAW 0 (at first): all who SEE it". A SET has bit k for k. */
    private static void ownersByAll() {
        SeenWaters w = Due.lakeOf("lake 1 2;" + SIX);
        Due.due("told(4) at first", w.told(4), 0);
        Due.due("six who SEE it", w.cell(0, 0, 2), 63);
        Due.due("six who own it", w.cell(0, 0, 3), 63);
        SeenWaters nobody = Due.lakeOf("lake 1 1;" + SIX + "mist 0 0 0;");
        for (int law = 0; law < 3; law++) {
            nobody.law(law);
            Due.due("nobody SEES it", nobody.cell(0, 0, 2), 0);
            Due.due("nobody owns it by LAW " + law, nobody.cell(0, 0, 3), 0);
            Due.due("man(0, 6) by LAW " + law, nobody.man(0, 6), 0);
            Due.due("share(0) by LAW " + law, nobody.share(0), 0);
        }
        SeenWaters last = Due.lakeOf("lake 2 1;door 0 0 0;door 0 0 0;door 0 0 0;door 0 0 0;door 0 0 0;door 1 0 0;mist 0 0 0;mist 1 1 1;");
        last.law(1);
        last.day(1);
        Due.due("the sixth one alone", last.cell(1, 0, 3), 32);
    }

    /** "LAW 1: of these the nearest one (... of like ones the least)", from both sides. */
    private static void ownersByTheNearest() {
        SeenWaters w = Due.lakeOf("lake 7 2;door 5 0 9;door 1 0 0;door 1 0 9;");
        w.law(1);
        int[] owners = {2, 2, 2, 1, 1, 1, 1};
        for (int x = 0; x < 7; x++) {
            Due.due("cell(" + x + ", 0, 3)", w.cell(x, 0, 3), owners[x]);
            Due.due("cell(" + x + ", 1, 3)", w.cell(x, 1, 3), owners[x]);
        }
        SeenWaters turned = Due.lakeOf("lake 7 2;door 1 0 0;door 5 0 9;");
        turned.law(1);
        Due.due("as near, the least", turned.cell(3, 0, 3), 1);
        Due.due("one nearer", turned.cell(4, 0, 3), 2);
        Due.due("share(0)", turned.share(0), 8);
        Due.due("share(1)", turned.share(1), 6);
    }

    /** "LAW 2: that with the highest EYE (of like ones the least)". */
    private static void ownersByTheHighest() {
        SeenWaters w = Due.lakeOf("lake 2 1;storey 5 0;door 0 5 1;door 1 10 0;door 1 0 2;");
        w.law(2);
        Due.due("all as high, the least", w.cell(1, 0, 3), 1);
        w.build(2);
        Due.due("one is higher", w.cell(1, 0, 3), 4);
        w.build(1);
        Due.due("two are higher, the least of them", w.cell(0, 0, 3), 2);
        w.build(0);
        Due.due("all as high again", w.cell(0, 0, 3), 1);
        SeenWaters one = Due.lakeOf("lake 1 1;door 0 6 0;door 0 7 0;");
        one.law(2);
        Due.due("higher by 1", one.cell(0, 0, 3), 2);
    }

    /** Who is nearest or highest, but does not SEE it, does not own it. */
    private static void ownersAreAmongThoseWhoSee() {
        SeenWaters near = Due.lakeOf("lake 3 2;door 0 0 0;door 2 0 0;stand 0 0 9;");
        near.law(1);
        Due.due("the nearest one is blocked", near.cell(0, 1, 2), 2);
        Due.due("the nearest one is blocked", near.cell(0, 1, 3), 2);
        SeenWaters high = Due.lakeOf("lake 12 1;door 0 99 9;door 11 0 0;mist 0 0 5;");
        high.law(2);
        Due.due("the highest one is in mist", high.cell(6, 0, 3), 2);
        Due.due("nobody reaches the other", high.cell(5, 0, 3), 1);
    }

    /** "its FISH are parted by how many they are (cut)"; "by LAW 1, 2 all of them". */
    private static void sharesAreCut() {
        int[] fish = {0, 1, 5, 6, 11, 12, 98, 99};
        int[] part = {0, 0, 0, 1, 1, 2, 16, 16};
        for (int k = 0; k < fish.length; k++) {
            SeenWaters w = Due.lakeOf("lake 1 1;" + SIX + "fish 0 0 " + fish[k] + ";");
            for (int f = 0; f < 6; f++) {
                Due.due("share(" + f + ") of " + fish[k] + " by six", w.share(f), part[k]);
            }
            for (int law = 1; law <= 2; law++) {
                w.law(law);
                Due.due("share(0) by LAW " + law, w.share(0), fish[k]);
                Due.due("share(5) by LAW " + law, w.share(5), 0);
            }
        }
        // Each CELL is cut for itself: 3 and 3 of 7 and 7, not the half of 14.
        SeenWaters two = Due.lakeOf("lake 2 1;door 0 0 0;door 1 0 0;fish 0 0 7;fish 1 0 7;");
        Due.due("share(0)", two.share(0), 6);
        Due.due("share(1)", two.share(1), 6);
    }

    /** "the i-th CELL (Y by Y, X rising); NONE: not so many". */
    private static void freeCells() {
        SeenWaters none = Due.lakeOf("lake 2 2;door 0 0 0;");
        Due.due("told(10) of none", none.told(10), 0);
        Due.due("free(0) of none", none.free(0), Due.NONE);
        SeenWaters all = Due.lakeOf("lake 12 5;");
        Due.due("told(10) of all", all.told(10), 60);
        for (int i = 0; i < 60; i++) {
            Due.due("free(" + i + ") of all", all.free(i), 100 * (i % 12) + i / 12);
        }
        Due.due("free(60)", all.free(60), Due.NONE);
        SeenWaters one = Due.lakeOf("lake 1 12;door 0 0 0;stand 0 10 1;");
        Due.due("told(10) of one", one.told(10), 1);
        Due.due("free(0) of one", one.free(0), 11);
        Due.due("free(1) of one", one.free(1), Due.NONE);
        for (int i : new int[] {-1, -2, Due.LEAST, Due.MOST}) {
            Due.due("free(" + i + ")", all.free(i), Due.NONE);
        }
        SeenWaters empty = new SeenWaters();
        Due.due("free(0) of no CELLS", empty.free(0), Due.NONE);
        Due.due("told(10) of no CELLS", empty.told(10), 0);
    }

    /** The first and the last of what may be asked, and those just beyond: promises 5, 6, 7. */
    private static void whatIsAsked() {
        SeenWaters w = Due.lakeOf("lake 3 2;door 1 4 2;stand 2 1 8;fish 2 1 9;");
        Due.due("told(0)", w.told(0), 3);
        Due.due("told(10)", w.told(10), 0);
        Due.due("told(-1)", w.told(-1), Due.OUTSIDE);
        Due.due("told(11)", w.told(11), Due.OUTSIDE);
        Due.due("cell(2, 1, 0)", w.cell(2, 1, 0), 8);
        Due.due("cell(2, 1, 3)", w.cell(2, 1, 3), 1);
        Due.due("cell(2, 1, -1)", w.cell(2, 1, -1), Due.OUTSIDE);
        Due.due("cell(2, 1, 4)", w.cell(2, 1, 4), Due.OUTSIDE);
        Due.due("cell(3, 1, 0)", w.cell(3, 1, 0), Due.UNKNOWN);
        Due.due("cell(2, 2, 0)", w.cell(2, 2, 0), Due.UNKNOWN);
        Due.due("cell(-1, 1, 0)", w.cell(-1, 1, 0), Due.UNKNOWN);
        Due.due("cell(2, -1, 0)", w.cell(2, -1, 0), Due.UNKNOWN);
        Due.due("man(0, 0)", w.man(0, 0), 1);
        Due.due("man(0, 6)", w.man(0, 6), 6);
        Due.due("man(0, -1)", w.man(0, -1), Due.OUTSIDE);
        Due.due("man(0, 7)", w.man(0, 7), Due.OUTSIDE);
        Due.due("man(-1, 0)", w.man(-1, 0), Due.UNKNOWN);
        Due.due("man(1, 0)", w.man(1, 0), Due.UNKNOWN);
        SeenWaters six = Due.lakeOf("lake 1 1;" + SIX);
        Due.due("share(5)", six.share(5), 0);
        Due.due("share(6)", six.share(6), Due.UNKNOWN);
        Due.due("sees(5, 0, 0)", six.sees(5, 0, 0), 1);
        Due.due("sees(6, 0, 0)", six.sees(6, 0, 0), Due.UNKNOWN);
        Due.due("blocker(5, 0, 0)", six.blocker(5, 0, 0), Due.NONE);
        Due.due("blocker(6, 0, 0)", six.blocker(6, 0, 0), Due.UNKNOWN);
    }
}
