/** Promises 12 to 17: law, build, plant, day, drift, begin. */
public final class DeedsTest {
    public static void main(String[] args) {
        laws();
        building();
        planting();
        days();
        mistyDays();
        seasons();
        seasonEdges();
        beginning();
        Due.end("DeedsTest");
    }

    private static void laws() {
        SeenWaters w = new SeenWaters();
        Due.due("law(2)", w.law(2), 0);
        Due.due("law(3)", w.law(3), Due.OUTSIDE);
        Due.due("law(-1)", w.law(-1), Due.OUTSIDE);
        Due.due("law(1)", w.law(1), 2);
        Due.due("law(0)", w.law(0), 1);
        Due.due("law(0)", w.law(0), 0);
    }

    private static void building() {
        SeenWaters w = Due.lakeOf("lake 2 1;storey 2 10;door 0 5 7;door 1 0 0;");
        Due.due("build(0)", w.build(0), 8);
        Due.due("build(0)", w.build(0), 9);
        Due.due("build(0) of 9", w.build(0), Due.NOT);
        Due.due("man(0, 2)", w.man(0, 2), 9);
        Due.due("man(0, 3)", w.man(0, 3), 24);
        Due.due("man(0, 4)", w.man(0, 4), -20);
        Due.due("man(1, 2)", w.man(1, 2), 0);
        Due.due("man(1, 4)", w.man(1, 4), 0);
        Due.due("build(2)", w.build(2), Due.UNKNOWN);
        Due.due("build(-1)", w.build(-1), Due.UNKNOWN);
    }

    private static void planting() {
        SeenWaters w = Due.lakeOf("lake 3 2;stand 2 1 6;");
        Due.due("plant(2, 1, 99)", w.plant(2, 1, 99), 6);
        Due.due("plant(2, 1, 0)", w.plant(2, 1, 0), 99);
        Due.due("plant(0, 1, 4)", w.plant(0, 1, 4), 0);
        Due.due("cell(2, 1, 0)", w.cell(2, 1, 0), 0);
        Due.due("cell(0, 1, 0)", w.cell(0, 1, 0), 4);
        Due.due("plant(0, 1, 100)", w.plant(0, 1, 100), Due.OUTSIDE);
        Due.due("plant(0, 1, -1)", w.plant(0, 1, -1), Due.OUTSIDE);
        Due.due("plant(3, 1, -1) is UNKNOWN first", w.plant(3, 1, -1), Due.UNKNOWN);
        Due.due("plant(0, 2, 1)", w.plant(0, 2, 1), Due.UNKNOWN);
        Due.due("plant(-1, 0, 1)", w.plant(-1, 0, 1), Due.UNKNOWN);
        Due.due("plant(0, -1, 1)", w.plant(0, -1, 1), Due.UNKNOWN);
        Due.due("cell(0, 1, 0)", w.cell(0, 1, 0), 4);
    }

    private static void days() {
        SeenWaters none = new SeenWaters();
        Due.due("day(1) without CELLS", none.day(1), Due.NOT);
        Due.due("day(0) without CELLS", none.day(0), Due.OUTSIDE);
        SeenWaters w = Due.lakeOf("lake 2 1;door 0 0 0;door 1 0 0;fish 0 0 9;");
        Due.due("day(0)", w.day(0), Due.OUTSIDE);
        Due.due("day(100)", w.day(100), Due.OUTSIDE);
        Due.due("day(-5)", w.day(-5), Due.OUTSIDE);
        Due.due("day(99)", w.day(99), 99);
        Due.due("man(0, 4)", w.man(0, 4), 4 * 99);
        w.law(1);
        Due.due("day(1)", w.day(1), 100);
        Due.due("man(0, 4)", w.man(0, 4), 4 * 99 + 9);
        Due.due("man(1, 4)", w.man(1, 4), 4 * 99 + 1);
        SeenWaters nobody = Due.lakeOf("lake 2 1;");
        Due.due("day(3) without men", nobody.day(3), 3);
    }

    /** A DAY gives the SHARE of that DAY: nothing on DAY 1, all on 0, one CELL of two on 3. */
    private static void mistyDays() {
        SeenWaters one = Due.lakeOf("lake 3 1;door 0 0 0;fish 0 0 5;fish 2 0 50;mist 1 1 0;mist 3 3 1;");
        int[] purse = {56, 56, 112, 118, 174};
        for (int k = 0; k < purse.length; k++) {
            Due.due("day(1)", one.day(1), k + 1);
            Due.due("man(0, 4)", one.man(0, 4), purse[k]);
        }
        one.begin();
        Due.due("day(5)", one.day(5), 5);
        Due.due("man(0, 4) in one go", one.man(0, 4), 174);
        Due.due("day(99)", one.day(99), 104);
        Due.due("man(0, 4)", one.man(0, 4), 174 + 99 * 56);
    }

    /**
     * DRAWS from SEED 0, / 65536: 0, 21468, 9988, 22117, 3498, 16927. On DAY 0 the first one has nothing:
     * it plants 8 in CELL 0, which hides 0, 1 from it alone; from then on who is drawn can pay.
     */
    private static void seasons() {
        String text = "lake 3 2;storey 2 6;door 0 0 0;door 2 0 0;fish 0 0 2;fish 1 0 2;fish 2 0 2;fish 0 1 2;fish 1 1 2;fish 2 1 2;";
        SeenWaters w = Due.lakeOf(text);
        int[][] purses = {{5, 7}, {10, 8}, {9, 15}, {14, 16}};
        int[][] storeys = {{0, 0}, {0, 1}, {1, 1}, {1, 2}};
        for (int k = 0; k < 4; k++) {
            Due.due("drift(1)", w.drift(1), k + 1);
            for (int f = 0; f < 2; f++) {
                Due.due("man(" + f + ", 4) on day " + k, w.man(f, 4), purses[k][f]);
                Due.due("man(" + f + ", 2) on day " + k, w.man(f, 2), storeys[k][f]);
            }
        }
        Due.due("cell(0, 0, 0)", w.cell(0, 0, 0), 8);
        Due.due("seed(0)", w.seed(0), 1109335178);
        SeenWaters atOnce = Due.lakeOf(text);
        Due.due("drift(4)", atOnce.drift(4), 4);
        Due.due("man(0, 4)", atOnce.man(0, 4), 14);
        Due.due("man(1, 4)", atOnce.man(1, 4), 16);
        Due.due("seed(0)", atOnce.seed(0), 1109335178);
    }

    private static void seasonEdges() {
        SeenWaters none = new SeenWaters();
        Due.due("drift(1) without CELLS", none.drift(1), Due.NOT);
        Due.due("drift(0) without CELLS", none.drift(0), Due.OUTSIDE);
        SeenWaters nobody = Due.lakeOf("lake 2 1;");
        Due.due("drift(1) without men", nobody.drift(1), Due.NOT);
        Due.due("seed(0)", nobody.seed(0), 0);
        SeenWaters w = Due.lakeOf("lake 1 1;storey 1 0;door 0 0 8;");
        Due.due("drift(0)", w.drift(0), Due.OUTSIDE);
        Due.due("drift(100)", w.drift(100), Due.OUTSIDE);
        Due.due("drift(1): a PURSE just as what it costs", w.drift(1), 1);
        Due.due("man(0, 2)", w.man(0, 2), 9);
        Due.due("cell(0, 0, 0)", w.cell(0, 0, 0), 0);
        Due.due("drift(1): 9 STOREYS plant", w.drift(1), 2);
        Due.due("cell(0, 0, 0)", w.cell(0, 0, 0), 7);
        Due.due("man(0, 2)", w.man(0, 2), 9);
        Due.due("seed(1)", w.seed(1), 1449466924);
        Due.due("drift(99)", w.drift(99), 101);
    }

    private static void beginning() {
        SeenWaters w = Due.lakeOf("lake 2 2;storey 1 1;door 0 0 3;stand 1 1 5;mist 0 0 1;");
        w.day(3);
        w.build(0);
        w.plant(1, 1, 0);
        w.plant(0, 0, 7);
        w.law(2);
        w.seed(9);
        w.write(0, 1, 1);
        w.keep(0);
        Due.due("begin()", w.begin(), 3);
        int[] want = {2, 2, 1, 0, 2, 0, 1, 1, 1, 1, 2};
        for (int what = 0; what < want.length; what++) {
            Due.due("told(" + what + ")", w.told(what), want[what]);
        }
        Due.due("cell(1, 1, 0)", w.cell(1, 1, 0), 5);
        Due.due("cell(0, 0, 0)", w.cell(0, 0, 0), 0);
        Due.due("man(0, 2)", w.man(0, 2), 3);
        Due.due("man(0, 4)", w.man(0, 4), 0);
        Due.due("seed(9)", w.seed(9), 9);
        Due.due("goBack(0)", w.goBack(0), 1);
        Due.due("told(5)", w.told(5), 3);
        Due.due("begin()", w.begin(), 3);
        Due.due("begin()", w.begin(), 0);
    }
}
