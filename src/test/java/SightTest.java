/** Promises 6 to 11: cell, man, sees, blocker, share, free. */
public final class SightTest {
    public static void main(String[] args) {
        cells();
        men();
        linesToTheNearest();
        linesToTheLeft();
        justAsHighBlocksNot();
        leastZBlocks();
        ownCellBlocksNot();
        mist();
        eachCallLooks();
        laws();
        freeCells();
        refusals();
        Due.end("SightTest");
    }

    /** EYE 1 at place 1; a tree of 1 in 1, 0 is higher than the half of it. */
    private static SeenWaters small() {
        return Due.lakeOf("lake 3 2;door 1 0 0;stand 1 0 1;");
    }

    private static void cells() {
        SeenWaters w = Due.lakeOf("lake 3 2;door 1 0 0;door 2 9 0;stand 1 0 1;fish 2 1 30;fish 0 0 0;");
        Due.due("cell(1, 0, 0)", w.cell(1, 0, 0), 1);
        Due.due("cell(0, 1, 0)", w.cell(0, 1, 0), 0);
        Due.due("cell(2, 1, 1)", w.cell(2, 1, 1), 30);
        Due.due("cell(0, 0, 1)", w.cell(0, 0, 1), 0);
        Due.due("cell(1, 1, 1)", w.cell(1, 1, 1), 1);
        Due.due("cell(2, 1, 2)", w.cell(2, 1, 2), 3);
        Due.due("cell(1, 1, 2)", w.cell(1, 1, 2), 2);
        Due.due("cell(1, 1, 3)", w.cell(1, 1, 3), 2);
        Due.due("cell(2, 1, 3)", w.cell(2, 1, 3), 3);
    }

    private static void men() {
        SeenWaters w = Due.lakeOf("lake 3 2;storey 20 5;door 1 0 0;door 2 99 9;stand 1 0 1;");
        int[][] want = {{1, 0, 0, 1, 0, 4, 4}, {2, 99, 9, 280, 0, 6, 6}};
        for (int f = 0; f < 2; f++) {
            for (int what = 0; what < 7; what++) {
                Due.due("man(" + f + ", " + what + ")", w.man(f, what), want[f][what]);
            }
        }
        w.law(2);
        Due.due("man(0, 5) by LAW 2", w.man(0, 5), 4);
        Due.due("man(0, 6) by LAW 2", w.man(0, 6), 0);
        Due.due("man(1, 6) by LAW 2", w.man(1, 6), 6);
        w.law(1);
        Due.due("man(0, 6) by LAW 1", w.man(0, 6), 2);
        Due.due("man(1, 6) by LAW 1", w.man(1, 6), 4);
        w.day(2);
        Due.due("man(1, 4)", w.man(1, 4), 8);
        SeenWaters untold = Due.lakeOf("lake 1 1;door 0 5 4;");
        Due.due("man(0, 3), storeys untold", untold.man(0, 3), 18);
    }

    /** From 1 to X 0 the line is over X 1/2 at Z 0: the greater one, 1; to X 2 over 3/2: 2. */
    private static void linesToTheNearest() {
        SeenWaters w = small();
        int[] seen = {0, 0, 1};
        int[] by = {100, 100, Due.NONE};
        for (int x = 0; x < 3; x++) {
            Due.due("sees(0, " + x + ", 0)", w.sees(0, x, 0), 1);
            Due.due("sees(0, " + x + ", 1)", w.sees(0, x, 1), seen[x]);
            Due.due("blocker(0, " + x + ", 1)", w.blocker(0, x, 1), by[x]);
        }
        Due.due("share(0)", w.share(0), 4);
        w.plant(1, 0, 0);
        w.plant(2, 0, 1);
        Due.due("sees(0, 2, 1) over 2, 0", w.sees(0, 2, 1), 0);
        Due.due("blocker(0, 2, 1) over 2, 0", w.blocker(0, 2, 1), 200);
        Due.due("share(0)", w.share(0), 5);
    }

    /** From 5 to 0, 2 the line is over 5 - 5/3 = 3 1/3 and 5 - 10/3 = 1 2/3. */
    private static void linesToTheLeft() {
        SeenWaters w = Due.lakeOf("lake 6 3;door 5 0 0;");
        int[] firstRow = {0, 0, 0, 1, 0, 0};
        int[] secondRow = {0, 0, 1, 0, 0, 0};
        for (int x = 0; x < 6; x++) {
            w.plant(x, 0, 1);
            Due.due("tree in " + x + ", 0", w.sees(0, 0, 2), 1 - firstRow[x]);
            w.plant(x, 0, 0);
            w.plant(x, 1, 1);
            Due.due("tree in " + x + ", 1", w.sees(0, 0, 2), 1 - secondRow[x]);
            w.plant(x, 1, 0);
        }
    }

    /** EYE 7 over three rows: 7 * 3/4 = 5 1/4, 7 * 2/4 = 3 1/2, 7/4 = 1 3/4; EYE 8: 6, 4, 2. */
    private static void justAsHighBlocksNot() {
        SeenWaters w = Due.lakeOf("lake 1 4;storey 1 0;door 0 6 0;");
        int[] most = {5, 3, 1};
        int[] mostOfEight = {6, 4, 2};
        checkHeights(w, most);
        w.build(0);
        checkHeights(w, mostOfEight);
    }

    private static void checkHeights(SeenWaters w, int[] most) {
        for (int z = 0; z < 3; z++) {
            w.plant(0, z, most[z]);
            Due.due("blocker(0, 0, 3), " + most[z] + " in row " + z, w.blocker(0, 0, 3), Due.NONE);
            w.plant(0, z, most[z] + 1);
            Due.due("blocker(0, 0, 3), " + (most[z] + 1) + " in row " + z, w.blocker(0, 0, 3), z);
            w.plant(0, z, 0);
        }
    }

    private static void leastZBlocks() {
        SeenWaters w = Due.lakeOf("lake 2 5;door 1 3 0;stand 1 1 9;stand 1 3 9;stand 1 0 1;");
        Due.due("blocker(0, 1, 4)", w.blocker(0, 1, 4), 101);
        Due.due("blocker(0, 1, 1)", w.blocker(0, 1, 1), Due.NONE);
        w.plant(1, 1, 0);
        Due.due("blocker(0, 1, 4)", w.blocker(0, 1, 4), 103);
        Due.due("blocker(0, 1, 3)", w.blocker(0, 1, 3), Due.NONE);
        Due.due("blocker(0, 1, 2)", w.blocker(0, 1, 2), Due.NONE);
    }

    private static void ownCellBlocksNot() {
        SeenWaters w = Due.lakeOf("lake 1 2;door 0 0 0;stand 0 0 99;");
        Due.due("sees(0, 0, 0)", w.sees(0, 0, 0), 1);
        Due.due("sees(0, 0, 1)", w.sees(0, 0, 1), 0);
    }

    /** The tree in 0, 0 hides 0, 1 (X 1 / 2 goes over the greater one) and 0, 2 and 1, 2 (1 / 3 goes over 0). */
    private static void mist() {
        SeenWaters w = Due.lakeOf("lake 5 3;door 0 0 0;mist 0 0 0;mist 1 1 1;mist 2 2 2;mist 3 3 3;mist 4 4 4;stand 0 0 9;");
        int[] seen = {0, 2, 6 - 1, 12 - 3, 15 - 3, 15 - 3};
        int[] free = {15, 13, 10, 6, 3, 3};
        for (int day = 0; day < seen.length; day++) {
            Due.due("man(0, 5) on day " + day, w.man(0, 5), seen[day]);
            Due.due("share(0) on day " + day, w.share(0), seen[day]);
            Due.due("told(10) on day " + day, w.told(10), free[day]);
            Due.due("blocker looks at no mist", w.blocker(0, 0, 2), 0);
            Due.due("blocker looks at no mist", w.blocker(0, 4, 0), Due.NONE);
            w.day(1);
        }
        SeenWaters wide = Due.lakeOf("lake 5 3;door 0 0 0;mist 0 0 2;");
        Due.due("sees(0, 2, 0)", wide.sees(0, 2, 0), 1);
        Due.due("sees(0, 3, 0)", wide.sees(0, 3, 0), 0);
        Due.due("sees(0, 0, 1)", wide.sees(0, 0, 1), 1);
        Due.due("sees(0, 0, 2)", wide.sees(0, 0, 2), 0);
        wide.day(1);
        Due.due("sees(0, 0, 2) without mist", wide.sees(0, 0, 2), 1);
    }

    /** Each call looks for itself: none of them hangs on what an earlier one saw. */
    private static void eachCallLooks() {
        String text = "lake 1 2;door 0 0 0;stand 0 0 9;";
        Due.due("cell(0, 0, 2) first", Due.lakeOf(text).cell(0, 0, 2), 1);
        Due.due("cell(0, 0, 3) first", Due.lakeOf(text).cell(0, 0, 3), 1);
        Due.due("man(0, 5) first", Due.lakeOf(text).man(0, 5), 1);
        Due.due("man(0, 6) first", Due.lakeOf(text).man(0, 6), 1);
        Due.due("share(0) first", Due.lakeOf(text).share(0), 1);
        Due.due("free(0) first", Due.lakeOf(text).free(0), 1);
        Due.due("told(10) first", Due.lakeOf(text).told(10), 1);
        Due.due("boat(0, 8) first", Due.lakeOf(text).boat(0, 8), 1);
        Due.due("view(0, 0, 0) first", Due.lakeOf(text).view(0, 0, 0), 1);
        Due.due("wins(0) first", Due.lakeOf(text).wins(0), 0);
        Due.due("tree(0, 1, 2) first", Due.lakeOf(text).tree(0, 1, 2), 1);
        SeenWaters w = Due.lakeOf(text);
        Due.due("tree(0, 1, 0)", w.tree(0, 1, 0), 0);
        Due.due("view(0, 0, 0)", w.view(0, 0, 0), 1);
        Due.due("cell(0, 1, 2) after what was tried", w.cell(0, 1, 2), 0);
        Due.due("man(0, 6) after what was tried", w.man(0, 6), 1);
    }

    private static void laws() {
        SeenWaters w = Due.lakeOf("lake 3 1;door 0 5 0;door 2 5 0;door 2 9 0;fish 0 0 20;fish 1 0 11;fish 2 0 2;");
        checkLaw(w, new int[] {7, 7, 7}, new int[] {6 + 3, 6 + 3, 6 + 3});
        w.law(1);
        checkLaw(w, new int[] {1, 1, 2}, new int[] {31, 2, 0});
        w.law(2);
        checkLaw(w, new int[] {4, 4, 4}, new int[] {0, 0, 33});
        w.build(0);
        w.build(0);
        checkLaw(w, new int[] {1, 1, 1}, new int[] {33, 0, 0});
        w.build(1);
        w.build(1);
        checkLaw(w, new int[] {1, 1, 1}, new int[] {33, 0, 0});
        w.build(1);
        checkLaw(w, new int[] {2, 2, 2}, new int[] {0, 33, 0});
    }

    private static void checkLaw(SeenWaters w, int[] owners, int[] shares) {
        for (int x = 0; x < 3; x++) {
            Due.due("cell(" + x + ", 0, 2)", w.cell(x, 0, 2), 7);
            Due.due("cell(" + x + ", 0, 3) by LAW " + w.told(4), w.cell(x, 0, 3), owners[x]);
            Due.due("share(" + x + ") by LAW " + w.told(4), w.share(x), shares[x]);
        }
    }

    private static void freeCells() {
        SeenWaters w = Due.lakeOf("lake 3 2;door 1 0 0;stand 1 0 1;");
        Due.due("free(0)", w.free(0), 1);
        Due.due("free(1)", w.free(1), 101);
        Due.due("free(2)", w.free(2), Due.NONE);
        Due.due("free(-1)", w.free(-1), Due.NONE);
        Due.due("free(least)", w.free(Integer.MIN_VALUE), Due.NONE);
        Due.due("free(most)", w.free(Integer.MAX_VALUE), Due.NONE);
        SeenWaters empty = Due.lakeOf("lake 12 2;");
        Due.due("told(10) without men", empty.told(10), 24);
        Due.due("free(11)", empty.free(11), 1100);
        Due.due("free(12)", empty.free(12), 1);
        Due.due("free(23)", empty.free(23), 1101);
        Due.due("free(24)", empty.free(24), Due.NONE);
    }

    private static void refusals() {
        SeenWaters w = small();
        int[][] outside = {{-1, 0}, {3, 0}, {0, -1}, {0, 2}};
        for (int[] at : outside) {
            Due.due("cell out", w.cell(at[0], at[1], 0), Due.UNKNOWN);
            Due.due("cell out, what out", w.cell(at[0], at[1], 9), Due.UNKNOWN);
            Due.due("sees out", w.sees(0, at[0], at[1]), Due.UNKNOWN);
            Due.due("blocker out", w.blocker(0, at[0], at[1]), Due.UNKNOWN);
        }
        int[] nobody = {-1, 1, 6, Integer.MIN_VALUE, Integer.MAX_VALUE};
        for (int f : nobody) {
            Due.due("man out", w.man(f, 0), Due.UNKNOWN);
            Due.due("man out, what out", w.man(f, 7), Due.UNKNOWN);
            Due.due("sees out", w.sees(f, 0, 0), Due.UNKNOWN);
            Due.due("blocker out", w.blocker(f, 0, 0), Due.UNKNOWN);
            Due.due("share out", w.share(f), Due.UNKNOWN);
        }
        Due.due("cell(0, 0, -1)", w.cell(0, 0, -1), Due.OUTSIDE);
        Due.due("cell(0, 0, 4)", w.cell(0, 0, 4), Due.OUTSIDE);
        Due.due("man(0, -1)", w.man(0, -1), Due.OUTSIDE);
        Due.due("man(0, 7)", w.man(0, 7), Due.OUTSIDE);
    }
}
