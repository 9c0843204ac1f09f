/** All calls on the least lake, on the greatest ones with the most doors, and on a small one behind a great one. */
public final class LakeSizesTest {
    public static void main(String[] args) {
        oneCell();
        twelveByFive();
        twelveByFiveByBoat();
        fiveByTwelve();
        towersOnFiveByTwelve();
        smallBehindGreat();
        Due.end("LakeSizesTest");
    }

    private static void oneCell() {
        SeenWaters w = Due.lakeOf("lake 1 1;door 0 0 0;");
        int[] told = {1, 1, 1, 0, 0, 0, Due.NONE, 0, 3, 100, 0};
        for (int what = 0; what < told.length; what++) {
            Due.due("told(" + what + ")", w.told(what), told[what]);
        }
        int[] cell = {0, 1, 1, 1};
        for (int what = 0; what < cell.length; what++) {
            Due.due("cell(0, 0, " + what + ")", w.cell(0, 0, what), cell[what]);
        }
        int[] man = {0, 0, 0, 1, 0, 1, 1};
        for (int what = 0; what < man.length; what++) {
            Due.due("man(0, " + what + ")", w.man(0, what), man[what]);
        }
        Due.due("sees(0, 0, 0)", w.sees(0, 0, 0), 1);
        Due.due("blocker(0, 0, 0)", w.blocker(0, 0, 0), Due.NONE);
        Due.due("share(0)", w.share(0), 1);
        Due.due("free(0)", w.free(0), Due.NONE);
        Due.due("tree(0, 99, 2)", w.tree(0, 99, 2), 1);
        Due.due("wins(0)", w.wins(0), 0);
        Due.due("view(0, 0, 0)", w.view(0, 0, 0), 0);
        Due.due("towers(0, 0, 0, 1, 0)", w.towers(0, 0, 0, 1, 0), Due.UNKNOWN);
        Due.due("boat(0, 8)", w.boat(0, 8), 1);
        Due.due("needed(0)", w.needed(0), 0);
        Due.due("write(0, 0, 0)", w.write(0, 0, 0), 1);
        Due.due("judge()", w.judge(), Due.NONE);
        Due.due("drift(1)", w.drift(1), 1);
        Due.due("cell(0, 0, 0)", w.cell(0, 0, 0), 8);
        Due.due("day(1)", w.day(1), 2);
        Due.due("man(0, 4)", w.man(0, 4), 2);
    }

    /** EYE 2 at place 11; 9 high in 11, 0 hides 10 and 11 of rows 1 and 2, 9 to 11 of rows 3 and 4. */
    private static SeenWaters wide() {
        return Due.lakeOf("lake 12 5;door 11 1 0;stand 11 0 9;fish 11 4 50;");
    }

    private static void twelveByFive() {
        SeenWaters w = wide();
        Due.due("man(0, 5)", w.man(0, 5), 50);
        Due.due("man(0, 6)", w.man(0, 6), 50);
        Due.due("share(0)", w.share(0), 50);
        Due.due("told(10)", w.told(10), 10);
        Due.due("free(0)", w.free(0), 1001);
        Due.due("free(9)", w.free(9), 1104);
        Due.due("free(10)", w.free(10), Due.NONE);
        Due.due("blocker(0, 11, 4)", w.blocker(0, 11, 4), 1100);
        Due.due("cell(11, 4, 3)", w.cell(11, 4, 3), 0);
        Due.due("cell(8, 4, 3)", w.cell(8, 4, 3), 1);
        Due.due("view(0, 11, 0)", w.view(0, 11, 0), 59);
        Due.due("view(0, 11, 4)", w.view(0, 11, 4), 0);
        int[][] trees = {{1, 11, 0, 109}, {2, 0, 0, 50}, {99, 0, 0, 50}};
        for (int[] tree : trees) {
            for (int what = 0; what < 3; what++) {
                Due.due("tree(0, " + tree[0] + ", " + what + ")", w.tree(0, tree[0], what), tree[1 + what]);
            }
        }
        Due.due("wins(0)", w.wins(0), 0);
        Due.due("needed(0)", w.needed(0), 6);
        Due.due("write(0, 11, 4)", w.write(0, 11, 4), 1);
        Due.due("judge()", w.judge(), 0);
        Due.due("day(99)", w.day(99), 99);
        Due.due("man(0, 4)", w.man(0, 4), 50 * 99);
        w.begin();
        // DRAWS from SEED 0 on: 0, 21468 (left over by 60: 48), 9988: 8 high in 0, 4, which hides nothing.
        Due.due("drift(1)", w.drift(1), 1);
        Due.due("cell(0, 4, 0)", w.cell(0, 4, 0), 8);
        Due.due("man(0, 4)", w.man(0, 4), 50);
        w.plant(11, 0, 0);
        Due.due("judge()", w.judge(), Due.NONE);
        Due.due("share(0)", w.share(0), 109);
        Due.due("needed(0)", w.needed(0), 0);
    }

    private static void twelveByFiveByBoat() {
        SeenWaters w = wide();
        Due.due("boat(0, 8) around", w.boat(0, 8), 8);
        w.plant(11, 0, 0);
        int[] most = {1, 2, 3, 4, 54, 55, 56, 57};
        for (int n = 1; n <= 8; n++) {
            Due.due("boat(0, " + n + ")", w.boat(0, n), most[n - 1]);
        }
    }

    /** EYE 2 at place 4; 9 high in 4, 0 hides 43 CELLS, from row 7 on all. */
    private static SeenWaters deep(String fish) {
        return Due.lakeOf("lake 5 12;" + "door 4 1 0;".repeat(6) + "stand 4 0 9;" + fish);
    }

    private static void fiveByTwelve() {
        SeenWaters w = deep("fish 4 11 99;");
        Due.due("told(10)", w.told(10), 43);
        Due.due("free(42)", w.free(42), 411);
        Due.due("free(43)", w.free(43), Due.NONE);
        Due.due("view(5, 4, 0) by LAW 0", w.view(5, 4, 0), 16);
        Due.due("tree(5, 1, 0)", w.tree(5, 1, 0), 4);
        Due.due("tree(5, 1, 1)", w.tree(5, 1, 1), 0);
        Due.due("tree(5, 1, 2)", w.tree(5, 1, 2), 16);
        w.law(1);
        int[] shares = {17, 0, 0, 0, 0, 0};
        for (int f = 0; f < 6; f++) {
            Due.due("man(" + f + ", 5)", w.man(f, 5), 17);
            Due.due("man(" + f + ", 6) by LAW 1", w.man(f, 6), shares[f]);
            Due.due("share(" + f + ") by LAW 1", w.share(f), shares[f]);
            Due.due("needed(" + f + ")", w.needed(f), 6);
        }
        Due.due("view(0, 4, 0) by LAW 1", w.view(0, 4, 0), 42 + 99);
        Due.due("boat(0, 8)", w.boat(0, 8), 8);
        Due.due("boat(5, 8)", w.boat(5, 8), Due.NONE);
        Due.due("drift(99)", w.drift(99), 99);
        Due.due("drift(99)", w.drift(99), 198);
    }

    /** Three STOREYS (EYE 11) are over 9 from row 5 on: 33 CELLS more, for the least of like ones. */
    private static void towersOnFiveByTwelve() {
        SeenWaters w = deep("");
        w.law(1);
        int[] worth = {1683, 1683, 1683, 1683, 1683, 4650, 4650};
        int[] first = {Due.NONE, 0, 0, 0, 0, 1, 1};
        for (int n = 0; n <= 6; n++) {
            Due.due("towers(0, 5, " + n + ", 99, 0)", w.towers(0, 5, n, 99, 0), worth[n]);
            Due.due("towers(0, 5, " + n + ", 99, 1)", w.towers(0, 5, n, 99, 1), first[n]);
        }
    }

    /** Nothing of a great lake is left in a small one behind it. */
    private static void smallBehindGreat() {
        SeenWaters w = deep("fish 0 1 90;fish 1 1 80;mist 0 9 12;storey 20 1;");
        w.law(1);
        w.boat(0, 8);
        w.tree(0, 1, 0);
        w.towers(0, 5, 6, 99, 0);
        Due.tell(w, "lake 2 1;door 0 0 0;door 1 0 0;");
        Due.due("lake()", w.lake(), 2);
        Due.due("boat(0, 8)", w.boat(0, 8), 1);
        Due.due("share(0)", w.share(0), 1);
        Due.due("told(6)", w.told(6), Due.NONE);
        Due.due("told(10)", w.told(10), 0);
        Due.due("man(0, 5)", w.man(0, 5), 2);
        Due.due("tree(0, 1, 2)", w.tree(0, 1, 2), 1);
        Due.due("towers(0, 1, 6, 99, 0)", w.towers(0, 1, 6, 99, 0), 0);
        String[] lakes = {"lake 12 5;", "lake 1 12;", "lake 12 1;", "lake 12 5;", "lake 5 12;", "lake 12 5;"};
        int[] cells = {60, 12, 12, 60, 60, 60};
        for (int k = 0; k < lakes.length; k++) {
            Due.tell(w, lakes[k] + "mist 999 999 20;");
            Due.due(lakes[k], w.lake(), cells[k]);
            Due.tell(w, lakes[k] + "mist 999 999 21;");
            Due.due(lakes[k] + " with a FAULT", w.lake(), -12);
        }
    }
}
