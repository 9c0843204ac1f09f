/** The edges of promises 12 to 17, and of an object's 512 calls. */
public final class DeedEdgesTest {
    private static final String SIX = "door 0 0 0;door 0 0 1;door 0 0 2;door 0 0 3;door 0 0 4;door 0 0 5;";

    public static void main(String[] args) {
        lawsOfZeroToTwo();
        nineStoreys();
        whatAStoreyCosts();
        lastFisherman();
        treesOfZeroToNinetyNine();
        moreThanThirtyPlanted();
        oneToNinetyNineDays();
        shareOfThatDay();
        seasonsOfOneToNinetyNineDays();
        purseOfWhatAStoreyCosts();
        fewerThanNine();
        drawnCells();
        drawnFishermen();
        theDayGoesByLast();
        beginning();
        fiveHundredAndTwelveCalls();
        Due.end("DeedEdgesTest");
    }

    /** "LAW becomes v (0 .. 2): what it was. OUTSIDE." */
    private static void lawsOfZeroToTwo() {
        SeenWaters w = new SeenWaters();
        int was = 0;
        for (int v : new int[] {0, 1, 2, 2, 0, 2, 1, 1, 0}) {
            Due.due("law(" + v + ")", w.law(v), was);
            Due.due("told(4)", w.told(4), v);
            Due.due("law(-1)", w.law(-1), Due.OUTSIDE);
            Due.due("law(3)", w.law(3), Due.OUTSIDE);
            Due.due("told(4)", w.told(4), v);
            was = v;
        }
    }

    /** "a FISHERMAN has a STOREY more (9 at most)"; "NOT: it has 9". */
    private static void nineStoreys() {
        SeenWaters w = Due.lakeOf("lake 1 1;storey 4 10;door 0 0 0;door 0 0 8;door 0 0 9;");
        for (int n = 1; n <= 9; n++) {
            Due.due("build(0)", w.build(0), n);
            Due.due("its EYE", w.man(0, 3), 4 * n + 1);
            Due.due("its PURSE", w.man(0, 4), -10 * n);
        }
        Due.due("build(0) of 9", w.build(0), Due.NOT);
        Due.due("its STOREYS", w.man(0, 2), 9);
        Due.due("its PURSE", w.man(0, 4), -90);
        Due.due("build(1) of 8", w.build(1), 9);
        Due.due("build(1) of 9", w.build(1), Due.NOT);
        Due.due("build(2) of 9 told", w.build(2), Due.NOT);
        Due.due("PURSE of 2", w.man(2, 4), 0);
    }

    /** "and pays (its PURSE may fall below 0)". */
    private static void whatAStoreyCosts() {
        int[] costs = {0, 1, 999};
        for (int cost : costs) {
            SeenWaters w = Due.lakeOf("lake 1 1;storey 1 " + cost + ";door 0 0 0;");
            w.day(1);
            Due.due("build(0)", w.build(0), 1);
            Due.due("PURSE of 1 less " + cost, w.man(0, 4), 1 - cost);
        }
        SeenWaters untold = Due.lakeOf("lake 1 1;door 0 0 0;");
        untold.build(0);
        Due.due("PURSE, storeys untold", untold.man(0, 4), -100);
    }

    private static void lastFisherman() {
        SeenWaters w = Due.lakeOf("lake 1 1;" + SIX);
        Due.due("build(5)", w.build(5), 6);
        Due.due("build(6)", w.build(6), Due.UNKNOWN);
        Due.due("build(-1)", w.build(-1), Due.UNKNOWN);
        for (int f = 0; f < 5; f++) {
            Due.due("STOREYS of " + f, w.man(f, 2), f);
            Due.due("PURSE of " + f, w.man(f, 4), 0);
        }
    }

    /** "TO PLANT (T 0 .. 99): how high it was"; "what stands in a CELL becomes T high (0: nothing)". */
    private static void treesOfZeroToNinetyNine() {
        SeenWaters w = Due.lakeOf("lake 12 5;door 11 0 0;stand 11 3 50;");
        Due.due("plant(11, 3, 99)", w.plant(11, 3, 99), 50);
        Due.due("sees(0, 11, 4)", w.sees(0, 11, 4), 0);
        Due.due("plant(11, 3, 100)", w.plant(11, 3, 100), Due.OUTSIDE);
        Due.due("plant(11, 3, -1)", w.plant(11, 3, -1), Due.OUTSIDE);
        Due.due("plant(11, 3, 0)", w.plant(11, 3, 0), 99);
        Due.due("sees(0, 11, 4)", w.sees(0, 11, 4), 1);
        Due.due("plant(11, 3, 1)", w.plant(11, 3, 1), 0);
        Due.due("sees(0, 11, 4)", w.sees(0, 11, 4), 0);
        Due.due("plant(11, 4, 7)", w.plant(11, 4, 7), 0);
        Due.due("plant(12, 4, 7)", w.plant(12, 4, 7), Due.UNKNOWN);
        Due.due("plant(11, 5, 7)", w.plant(11, 5, 7), Due.UNKNOWN);
        Due.due("plant(0, 0, 7)", w.plant(0, 0, 7), 0);
        Due.due("plant(-1, 0, 7)", w.plant(-1, 0, 7), Due.UNKNOWN);
        Due.due("plant(0, -1, 7)", w.plant(0, -1, 7), Due.UNKNOWN);
        Due.due("cell(11, 3, 0)", w.cell(11, 3, 0), 1);
        Due.due("cell(11, 4, 0)", w.cell(11, 4, 0), 7);
        Due.due("cell(0, 0, 0)", w.cell(0, 0, 0), 7);
    }

    /** 30 'stand' are the text's bound, not that of planting. */
    private static void moreThanThirtyPlanted() {
        SeenWaters w = Due.lakeOf("lake 12 5;");
        for (int c = 0; c < 60; c++) {
            Due.due("plant in CELL " + c, w.plant(c % 12, c / 12, c + 1), 0);
        }
        for (int c = 0; c < 60; c++) {
            Due.due("CELL " + c, w.cell(c % 12, c / 12, 0), c + 1);
        }
    }

    /** "n DAYS (1 .. 99): THE DAY then." */
    private static void oneToNinetyNineDays() {
        SeenWaters w = Due.lakeOf("lake 1 1;door 0 0 0;");
        Due.due("day(1)", w.day(1), 1);
        Due.due("day(99)", w.day(99), 100);
        Due.due("day(0)", w.day(0), Due.OUTSIDE);
        Due.due("day(100)", w.day(100), Due.OUTSIDE);
        Due.due("told(5)", w.told(5), 100);
        Due.due("man(0, 4)", w.man(0, 4), 100);
    }

    /** "each PURSE has its SHARE of that DAY more": of the DAY that ends, not of the one that comes. */
    private static void shareOfThatDay() {
        for (boolean atOnce : new boolean[] {false, true}) {
            SeenWaters w = Due.lakeOf("lake 1 1;door 0 0 0;door 0 0 0;fish 0 0 9;mist 0 0 0;mist 2 3 0;");
            int[] purse = {0, 0, 4, 4, 4, 8, 12};
            for (int day = 1; day < purse.length; day++) {
                if (atOnce) {
                    w.begin();
                    Due.due("day(" + day + ")", w.day(day), day);
                } else {
                    Due.due("day(1)", w.day(1), day);
                }
                Due.due("PURSE on DAY " + day, w.man(0, 4), purse[day]);
                Due.due("PURSE on DAY " + day, w.man(1, 4), purse[day]);
            }
        }
        SeenWaters deed = Due.lakeOf("lake 1 2;door 0 0 0;fish 0 1 50;");
        deed.day(1);
        deed.plant(0, 0, 1);
        deed.day(1);
        Due.due("PURSE of a free view, then of a blocked one", deed.man(0, 4), 51 + 1);
    }

    /** "A season of n DAYS (1 .. 99) BY DRAWS: THE DAY then." */
    private static void seasonsOfOneToNinetyNineDays() {
        SeenWaters w = Due.lakeOf("lake 1 1;storey 1 999;door 0 0 0;fish 0 0 1;");
        Due.due("drift(1)", w.drift(1), 1);
        Due.due("drift(99)", w.drift(99), 100);
        Due.due("PURSE", w.man(0, 4), 100);
        Due.due("drift(0)", w.drift(0), Due.OUTSIDE);
        Due.due("drift(100)", w.drift(100), Due.OUTSIDE);
        Due.due("told(5)", w.told(5), 100);
    }

    /** "if its PURSE is what a STOREY costs or more": a DRAW for one who builds, three for one who plants. */
    private static void purseOfWhatAStoreyCosts() {
        int[] fish = {4, 5, 6};
        int[] storeys = {0, 1, 1};
        int[] purse = {8, 5, 7};
        int[] seed = {654583775, 12345, 12345};
        for (int k = 0; k < fish.length; k++) {
            SeenWaters w = Due.lakeOf("lake 1 1;storey 1 5;door 0 0 0;fish 0 0 " + fish[k] + ";");
            w.day(1);
            w.drift(1);
            Due.due("STOREYS, PURSE " + fish[k], w.man(0, 2), storeys[k]);
            Due.due("PURSE, was " + fish[k], w.man(0, 4), purse[k]);
            Due.due("THE SEED, PURSE " + fish[k], w.seed(0), seed[k]);
        }
        SeenWaters poor = Due.lakeOf("lake 1 1;storey 1 0;door 0 0 0;");
        poor.drift(1);
        Due.due("STOREYS of one that cost nothing", poor.man(0, 2), 1);
    }

    /** "(and it has fewer than 9), else it PLANTS". From SEED 0 on the third DRAW is 9988: a tree 8 high. */
    private static void fewerThanNine() {
        SeenWaters eight = Due.lakeOf("lake 1 1;storey 1 0;door 0 0 8;");
        eight.drift(1);
        Due.due("STOREYS of 8", eight.man(0, 2), 9);
        Due.due("nothing is planted", eight.cell(0, 0, 0), 0);
        Due.due("THE SEED", eight.seed(0), 12345);
        SeenWaters nine = Due.lakeOf("lake 1 1;storey 1 0;door 0 0 9;");
        nine.drift(1);
        Due.due("STOREYS of 9", nine.man(0, 2), 9);
        Due.due("a tree is planted", nine.cell(0, 0, 0), 8);
        Due.due("THE SEED", nine.seed(0), 654583775);
    }

    /**
     * "a DRAW of CELLS (X: left over by W; Y: / W) a tree of a DRAW of 10 high". DRAWS behind SEED 12345 are
     * 21468, 9988, 22117, behind SEED 1051550459: 19741, 12122, 8410.
     */
    private static void drawnCells() {
        String[] lakes = {"lake 5 2;", "lake 2 5;", "lake 1 10;", "lake 10 1;"};
        int[][] at = {{3, 1}, {0, 4}, {0, 8}, {8, 0}};
        int[][] bareAt = {{2, 0}, {0, 1}, {0, 2}, {2, 0}};
        for (int k = 0; k < lakes.length; k++) {
            SeenWaters w = Due.lakeOf(lakes[k] + "door 0 0 0;stand " + bareAt[k][0] + " " + bareAt[k][1] + " 5;");
            w.seed(12345);
            w.drift(1);
            Due.due("tree of 7 in " + lakes[k], w.cell(at[k][0], at[k][1], 0), 7);
            w.seed(1051550459);
            w.drift(1);
            Due.due("tree of 0 in " + lakes[k], w.cell(bareAt[k][0], bareAt[k][1], 0), 0);
            Due.due("THE SEED", w.seed(0), 551188310);
        }
    }

    /** "a DRAW of FISHERMEN": 21468 and 9988 left over by 1 .. 6; what costs nothing is built at once. */
    private static void drawnFishermen() {
        int[] first = {0, 0, 0, 0, 3, 0};
        int[] second = {0, 0, 1, 0, 3, 4};
        for (int men = 1; men <= 6; men++) {
            SeenWaters w = Due.lakeOf("lake 1 1;storey 1 0;" + "door 0 0 0;".repeat(men));
            w.seed(12345);
            w.drift(2);
            for (int f = 0; f < men; f++) {
                int want = (first[men - 1] == f ? 1 : 0) + (second[men - 1] == f ? 1 : 0);
                Due.due("STOREYS of " + f + " of " + men, w.man(f, 2), want);
            }
        }
    }

    /** "then the DAY goes by": its SHARE is that of the view behind what was built or planted on it. */
    private static void theDayGoesByLast() {
        SeenWaters built = Due.lakeOf("lake 1 2;storey 1 0;door 0 0 0;stand 0 0 1;fish 0 1 50;");
        built.drift(1);
        Due.due("PURSE of a view that is built", built.man(0, 4), 51);
        // 9988 left over by 16 is 4, 0, 1: it hides 0, 2 and 0, 3; left over by 5 it is 0, 3, which hides 0, 4.
        String[] lakes = {"lake 4 4;door 0 0 0;", "lake 1 5;door 0 0 0;"};
        int[] purses = {14, 4};
        for (int k = 0; k < lakes.length; k++) {
            SeenWaters planted = Due.lakeOf(lakes[k]);
            planted.seed(12345);
            planted.drift(1);
            Due.due("PURSE of " + lakes[k], planted.man(0, 4), purses[k]);
        }
        SeenWaters w = Due.lakeOf("lake 1 2;door 0 0 0;fish 0 1 50;");
        w.seed(12345);
        // 9988 is even: CELL 0, a tree of 7.
        w.drift(1);
        Due.due("cell(0, 0, 0)", w.cell(0, 0, 0), 7);
        Due.due("PURSE", w.man(0, 4), 1);
        SeenWaters mist = Due.lakeOf("lake 1 1;door 0 0 0;mist 0 0 0;mist 2 2 0;");
        int[] purse = {0, 1, 1, 2};
        for (int day = 0; day < purse.length; day++) {
            mist.drift(1);
            Due.due("PURSE behind DAY " + day, mist.man(0, 4), purse[day]);
        }
        mist.begin();
        mist.drift(4);
        Due.due("PURSE in one season", mist.man(0, 4), 2);
    }

    /** "All as it was told, DAY 0 (LAW, BOOK, IMAGES, THE SEED stay): THE DAY it was." */
    private static void beginning() {
        SeenWaters fresh = new SeenWaters();
        Due.due("begin() of no CELLS", fresh.begin(), 0);
        SeenWaters w = Due.lakeOf("lake 2 1;storey 2 7;door 0 3 8;door 1 0 0;stand 1 0 4;");
        Due.due("begin() on DAY 0", w.begin(), 0);
        Due.tell(w, "oops");
        w.lake();
        Due.tell(w, "lake 7");
        w.law(1);
        w.seed(2147483647);
        w.day(99);
        w.build(0);
        w.build(1);
        w.plant(0, 0, 9);
        w.plant(1, 0, 0);
        w.write(1, 0, 0);
        w.keep(1);
        Due.due("begin()", w.begin(), 99);
        int[] want = {2, 1, 2, 6, 1, 0, Due.NONE, 1, 2, 7, 0};
        for (int what = 0; what < want.length; what++) {
            Due.due("told(" + what + ") behind begin()", w.told(what), want[what]);
        }
        int[] storeys = {8, 0};
        for (int f = 0; f < 2; f++) {
            Due.due("STOREYS", w.man(f, 2), storeys[f]);
            Due.due("PURSE", w.man(f, 4), 0);
        }
        Due.due("cell(0, 0, 0)", w.cell(0, 0, 0), 0);
        Due.due("cell(1, 0, 0)", w.cell(1, 0, 0), 4);
        Due.due("fault() stays", w.fault(), 0);
        Due.due("THE SEED stays", w.seed(2147483647), 2147483647);
        Due.due("BOOK stays", w.judge(), 0);
        Due.due("IMAGE 0 was not kept", w.goBack(0), Due.NOT);
        Due.due("IMAGE 1 stays", w.goBack(1), 1);
        Due.due("its DAY", w.told(5), 99);
        Due.due("begin() again", w.begin(), 99);
    }

    /** "An object is used for at most 512 calls": the last of them, behind as many DAYS as they can bring. */
    private static void fiveHundredAndTwelveCalls() {
        StringBuilder text = new StringBuilder("lake12 5;door5 99 9;");
        for (int k = 0; k < 30; k++) {
            text.append("fish").append(k % 10).append(' ').append(k / 10).append(" 99;");
        }
        SeenWaters w = new SeenWaters();
        Due.tell(w, text.toString());
        int calls = (text.length() + 7) / 8;
        Due.due("lake()", w.lake(), 60);
        calls++;
        int days = 0;
        while (calls < 510) {
            days += 99;
            Due.due("day(99)", w.day(99), days);
            calls++;
        }
        Due.due("the 511th call", w.man(0, 4), days * (30 * 99 + 30));
        Due.due("the 512th call", w.told(5), days);
    }
}
