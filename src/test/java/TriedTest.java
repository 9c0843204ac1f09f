/** Promises 18 to 23: tree, wins, view, towers, boat, needed. */
public final class TriedTest {
    public static void main(String[] args) {
        trees();
        treesInPlace();
        storeyWins();
        views();
        towerPlay();
        longPlay();
        towerEdges();
        boats();
        boatsByLaw();
        storeysNeeded();
        refusals();
        Due.end("TriedTest");
    }

    /** The first sees 0, 1 over 0, 0 and 1, 1 over 1, 0; the second sees both over 1, 0. */
    private static SeenWaters two(String more) {
        return Due.lakeOf("lake 2 2;door 0 0 0;door 1 0 0;fish 0 1 10;" + more);
    }

    private static void tree(SeenWaters w, int f, int t, int[] want) {
        for (int what = 0; what < 3; what++) {
            Due.due("tree(" + f + ", " + t + ", " + what + ")", w.tree(f, t, what), want[what]);
        }
    }

    private static void trees() {
        SeenWaters w = two("");
        tree(w, 0, 1, new int[] {1, 0, 10});
        tree(w, 1, 1, new int[] {0, 0, 10});
        Due.due("cell(1, 0, 0)", w.cell(1, 0, 0), 0);
        Due.due("share(0)", w.share(0), 5);
        w.law(1);
        tree(w, 0, 99, new int[] {1, 0, 11});
        w.law(2);
        tree(w, 1, 1, new int[] {0, 0, 10});
        tree(w, 0, 1, new int[] {0, 1, 13});
    }

    private static void treesInPlace() {
        SeenWaters w = Due.lakeOf("lake 2 2;door 0 9 0;stand 0 0 9;fish 0 1 10;");
        Due.due("share(0)", w.share(0), 3);
        tree(w, 0, 5, new int[] {0, 0, 13});
        tree(w, 0, 6, new int[] {0, 0, 3});
        Due.due("cell(0, 0, 0)", w.cell(0, 0, 0), 9);
        SeenWaters harm = Due.lakeOf("lake 1 1;door 0 0 0;fish 0 0 0;");
        tree(harm, 0, 99, new int[] {0, 0, 0});
    }

    private static void storeyWins() {
        SeenWaters w = Due.lakeOf("lake 1 2;storey 1 5;door 0 0 0;door 0 0 9;stand 0 0 1;fish 0 1 7;");
        Due.due("wins(0)", w.wins(0), 3);
        Due.due("wins(1)", w.wins(1), Due.NOT);
        Due.due("man(0, 2)", w.man(0, 2), 0);
        Due.due("man(0, 4)", w.man(0, 4), 0);
        w.law(1);
        Due.due("wins(0) by LAW 1", w.wins(0), 7);
        w.law(2);
        Due.due("wins(0) by LAW 2", w.wins(0), 0);
        w.build(0);
        w.law(0);
        Due.due("wins(0)", w.wins(0), 0);
        SeenWaters two = Due.lakeOf("lake 1 2;storey 1 5;door 0 0 0;stand 0 0 1;fish 0 1 7;");
        two.plant(0, 0, 2);
        Due.due("wins(0): two STOREYS too few", two.wins(0), 0);
        two.build(0);
        two.build(0);
        Due.due("wins(0): one too few", two.wins(0), 7);
    }

    private static void views() {
        SeenWaters w = two("stand 1 0 1;");
        Due.due("view(0, 1, 0)", w.view(0, 1, 0), -5);
        Due.due("view(1, 1, 0)", w.view(1, 1, 0), 5);
        Due.due("view(1, 0, 0)", w.view(1, 0, 0), 0);
        Due.due("view(1, 1, 1)", w.view(1, 1, 1), 0);
        Due.due("cell(1, 0, 0)", w.cell(1, 0, 0), 1);
        w.law(2);
        Due.due("view(0, 1, 0) by LAW 2", w.view(0, 1, 0), 1);
        Due.due("view(1, 1, 0) by LAW 2", w.view(1, 1, 0), 0);
    }

    /** Two doors at one place; a STOREY lets one see 0, 1 and its 8 FISH. */
    private static SeenWaters rivals(int cost) {
        return Due.lakeOf("lake 1 2;storey 1 " + cost + ";door 0 0 0;door 0 0 0;stand 0 0 1;fish 0 1 8;fish 0 0 0;");
    }

    private static void towers(SeenWaters w, int n, int d, int worth, int first) {
        Due.due("towers(0, 1, " + n + ", " + d + ", 0)", w.towers(0, 1, n, d, 0), worth);
        Due.due("towers(0, 1, " + n + ", " + d + ", 1)", w.towers(0, 1, n, d, 1), first);
    }

    private static void towerPlay() {
        SeenWaters w = rivals(5);
        towers(w, 0, 1, 0, Due.NONE);
        towers(w, 1, 1, 3, 1);
        towers(w, 2, 1, 0, 1);
        // The first can build with its second move as well, whatever the other one does: it waits.
        towers(w, 3, 1, 0, 0);
        towers(w, 1, 99, 99 * 8 - 5, 1);
        towers(rivals(8), 1, 1, 0, 0);
        towers(rivals(8), 2, 1, 0, 0);
        towers(rivals(9), 1, 1, 0, 0);
        towers(rivals(9), 1, 2, 7, 1);
        Due.due("man(0, 2)", w.man(0, 2), 0);
        Due.due("man(1, 2)", w.man(1, 2), 0);
        Due.due("man(0, 4)", w.man(0, 4), 0);
        w.build(1);
        towers(w, 0, 2, -16, Due.NONE);
        towers(w, 1, 2, -5, 1);
        Due.due("what was paid ahead does not count", w.towers(1, 0, 0, 2, 0), 16);
        w.law(2);
        // By LAW 2 like EYES are for the least: the first needs as much, the second would need more.
        towers(w, 1, 1, 3, 1);
        Due.due("towers by LAW 2", w.towers(1, 0, 1, 1, 0), 8);
        w.build(0);
        Due.due("towers by LAW 2", w.towers(1, 0, 1, 1, 0), 3);
    }

    /** Three moves each: who has three STOREYS sees 0, 1; the second one's third answers the first one's. */
    private static void longPlay() {
        SeenWaters w = Due.lakeOf("lake 1 2;storey 1 1;door 0 0 0;door 0 0 0;stand 0 0 2;fish 0 1 80;fish 0 0 0;");
        towers(w, 4, 1, 0, 0);
        towers(w, 5, 1, 80 - 3, 1);
        towers(w, 6, 1, 0, 1);
    }

    private static void towerEdges() {
        SeenWaters w = Due.lakeOf("lake 1 2;storey 20 0;door 0 0 9;door 0 0 8;stand 0 0 99;fish 0 1 80;fish 0 0 0;");
        Due.due("EYE 181 sees not over 99 at half", w.sees(0, 0, 1), 0);
        towers(w, 6, 99, 0, 0);
        Due.due("with 9 one waits", w.towers(0, 1, 1, 1, 1), 0);
        SeenWaters last = Due.lakeOf("lake 1 2;storey 20 3;door 0 18 8;door 0 18 9;stand 0 0 99;fish 0 1 80;fish 0 0 0;");
        Due.due("towers: EYE 199 to win the half", last.towers(0, 1, 5, 1, 0), -3);
        Due.due("towers: there is time", last.towers(0, 1, 5, 1, 1), 0);
        Due.due("towers: its only move", last.towers(0, 1, 2, 1, 1), 1);
        Due.due("towers: the other one begins", last.towers(1, 0, 1, 1, 0), 80);
        Due.due("towers: the other one is answered", last.towers(1, 0, 2, 1, 0), 3);
        Due.due("towers: it has 9", last.towers(1, 0, 2, 1, 1), 0);
    }

    private static void boats() {
        SeenWaters w = Due.lakeOf("lake 3 2;door 1 0 0;fish 1 0 2;fish 0 0 9;fish 2 1 50;");
        int[] most = {2, 11, 53, 54, 63, 64, 64, 64};
        for (int n = 1; n <= 8; n++) {
            Due.due("boat(0, " + n + ")", w.boat(0, n), most[n - 1]);
        }
        SeenWaters row = Due.lakeOf("lake 3 1;door 1 0 0;fish 0 0 9;fish 2 0 8;fish 1 0 0;");
        int[] there = {0, 9, 9, 17};
        for (int n = 1; n <= 4; n++) {
            Due.due("boat(0, " + n + ") on a row", row.boat(0, n), there[n - 1]);
        }
        SeenWaters line = Due.lakeOf("lake 1 12;door 0 99 9;fish 0 8 99;fish 0 7 50;");
        Due.due("boat(0, 8) reaches Y 7", line.boat(0, 8), 7 + 50);
    }

    private static void boatsByLaw() {
        SeenWaters w = Due.lakeOf("lake 3 1;door 0 5 0;door 0 9 0;fish 0 0 7;fish 1 0 5;fish 2 0 1;");
        Due.due("boat(0, 8)", w.boat(0, 8), 3 + 2);
        Due.due("boat(1, 8)", w.boat(1, 8), 3 + 2);
        w.law(1);
        Due.due("boat(0, 8)", w.boat(0, 8), 13);
        Due.due("boat(1, 8)", w.boat(1, 8), Due.NONE);
        w.law(2);
        Due.due("boat(0, 8)", w.boat(0, 8), Due.NONE);
        Due.due("boat(1, 2)", w.boat(1, 2), 12);
        SeenWaters mist = Due.lakeOf("lake 3 1;door 0 5 0;mist 0 0 0;mist 1 1 1;");
        Due.due("boat(0, 8) in mist", mist.boat(0, 8), Due.NONE);
        mist.day(1);
        Due.due("boat(0, 8) in less mist", mist.boat(0, 8), 2);
        SeenWaters wall = Due.lakeOf("lake 1 4;door 0 0 0;stand 0 1 9;fish 0 3 99;");
        Due.due("boat(0, 8) not over what it does not own", wall.boat(0, 8), 2);
    }

    /** What stands in 0, 0 asks an EYE of twice its height. */
    private static void storeysNeeded() {
        SeenWaters w = Due.lakeOf("lake 1 2;door 0 0 0;stand 0 0 9;mist 1 1 1;mist 2 2 0;");
        Due.due("needed(0)", w.needed(0), 6);
        w.plant(0, 0, 8);
        Due.due("needed(0): just as high", w.needed(0), 5);
        w.plant(0, 0, 99);
        Due.due("needed(0) above 9", w.needed(0), 66);
        w.plant(0, 1, 99);
        w.plant(0, 0, 0);
        Due.due("needed(0) of none", w.needed(0), 0);
        w.plant(0, 0, 99);
        w.day(1);
        Due.due("needed(0) in mist", w.needed(0), 0);
        w.day(1);
        Due.due("needed(0) in all mist", w.needed(0), 0);
        // 2 high in row 1 of 4 asks 2 * 4 / 2, 3 high in row 2 asks 3 * 4 / 1, 5 high in row 0 asks 5 * 2 / 1.
        SeenWaters deep = Due.lakeOf("lake 1 4;storey 1 0;door 0 0 1;stand 0 1 2;");
        Due.due("needed(0) of 6 over row 1", deep.needed(0), 4);
        deep.plant(0, 2, 3);
        Due.due("needed(0) of 12 over row 2", deep.needed(0), 10);
        deep.plant(0, 2, 0);
        deep.plant(0, 0, 5);
        Due.due("needed(0) of 10 over row 0", deep.needed(0), 8);
        SeenWaters low = Due.lakeOf("lake 1 2;storey 1 0;door 0 0 0;door 0 0 9;stand 0 0 50;");
        Due.due("needed(0) of 99", low.needed(0), 99);
        Due.due("needed(1)", low.needed(1), 90);
        low.plant(0, 0, 51);
        Due.due("needed(0) of 101", low.needed(0), Due.NONE);
        low.plant(0, 0, 54);
        Due.due("needed(1): 99 more at most", low.needed(1), 98);
        low.plant(0, 0, 55);
        Due.due("needed(1) of 100", low.needed(1), Due.NONE);
        Due.due("man(1, 2)", low.man(1, 2), 9);
    }

    private static void refusals() {
        SeenWaters w = two("");
        int[] nobody = {-1, 2, Integer.MAX_VALUE, Integer.MIN_VALUE};
        for (int f : nobody) {
            Due.due("tree of nobody", w.tree(f, 1, 0), Due.UNKNOWN);
            Due.due("tree of nobody, t out", w.tree(f, 0, 9), Due.UNKNOWN);
            Due.due("wins of nobody", w.wins(f), Due.UNKNOWN);
            Due.due("view of nobody", w.view(f, 0, 0), Due.UNKNOWN);
            Due.due("towers of nobody", w.towers(f, 1, 1, 1, 0), Due.UNKNOWN);
            Due.due("towers against nobody, n out", w.towers(0, f, 7, 1, 0), Due.UNKNOWN);
            Due.due("boat of nobody", w.boat(f, 1), Due.UNKNOWN);
            Due.due("boat of nobody, n out", w.boat(f, 0), Due.UNKNOWN);
            Due.due("needed of nobody", w.needed(f), Due.UNKNOWN);
        }
        int[][] nowhere = {{-1, 0}, {2, 0}, {0, -1}, {0, 2}};
        for (int[] at : nowhere) {
            Due.due("view of nothing", w.view(0, at[0], at[1]), Due.UNKNOWN);
        }
        Due.due("towers(1, 1, 9, 9, 9)", w.towers(1, 1, 9, 9, 9), Due.UNKNOWN);
        int[][] trees = {{0, 0}, {100, 0}, {-1, 0}, {1, -1}, {1, 3}};
        for (int[] t : trees) {
            Due.due("tree out", w.tree(0, t[0], t[1]), Due.OUTSIDE);
        }
        int[][] towers = {{-1, 1, 0}, {7, 1, 0}, {1, 0, 0}, {1, 100, 0}, {1, 1, -1}, {1, 1, 2}};
        for (int[] t : towers) {
            Due.due("towers out", w.towers(0, 1, t[0], t[1], t[2]), Due.OUTSIDE);
        }
        Due.due("boat(0, 0)", w.boat(0, 0), Due.OUTSIDE);
        Due.due("boat(0, 9)", w.boat(0, 9), Due.OUTSIDE);
    }
}
