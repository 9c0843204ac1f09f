/** The edges of "3 TRIED" and of promises 18 to 23, sentence by sentence. */
public final class TriedEdgesTest {
    public static void main(String[] args) {
        treesOfOneToNinetyNine();
        ofLikeTreesTheFirst();
        treesInPlaceOfWhatStands();
        lastStoreyWins();
        worthOfNothing();
        worthOfOneOfTwo();
        movesOfZeroToSix();
        whoHasTheLastMove();
        waitingIfAsGood();
        weightsOfOneToNinetyNine();
        towersOfFewerThanNine();
        paidByTheseMoves();
        othersHaveTheirParts();
        stepsOfOneToEight();
        boatStaysOnTheLake();
        boatOnOwnWater();
        storeysNeededOfNone();
        storeysNeededForCellsThatThereAre();
        storeysNeededAboveNine();
        storeysNeededOfNinetyNine();
        storeysNeededInMist();
        Due.end("TriedEdgesTest");
    }

    private static void tree(SeenWaters w, int f, int t, int x, int y, int share) {
        Due.due("tree(" + f + ", " + t + ", 0)", w.tree(f, t, 0), x);
        Due.due("tree(" + f + ", " + t + ", 1)", w.tree(f, t, 1), y);
        Due.due("tree(" + f + ", " + t + ", 2)", w.tree(f, t, 2), share);
        Due.due("tree(" + f + ", " + t + ", -1)", w.tree(f, t, -1), Due.OUTSIDE);
        Due.due("tree(" + f + ", " + t + ", 3)", w.tree(f, t, 3), Due.OUTSIDE);
    }

    /** "BEST TREE (T 1 .. 99)". 1 high asks EYE 2, 99 high EYE 198. */
    private static void treesOfOneToNinetyNine() {
        SeenWaters w = Due.lakeOf("lake 1 2;door 0 1 0;");
        tree(w, 0, 1, 0, 0, 2);
        tree(w, 0, 2, 0, 1, 2);
        tree(w, 0, 99, 0, 1, 2);
        tree(Due.lakeOf("lake 1 2;door 0 0 0;"), 0, 1, 0, 1, 2);
        tree(Due.lakeOf("lake 1 2;storey 19 0;door 0 26 9;"), 0, 99, 0, 0, 2);
        tree(Due.lakeOf("lake 1 2;storey 19 0;door 0 25 9;"), 0, 99, 0, 1, 2);
        for (int t : new int[] {0, 100, -1}) {
            Due.due("tree(0, " + t + ", 0)", w.tree(0, t, 0), Due.OUTSIDE);
        }
        SeenWaters one = Due.lakeOf("lake 1 1;door 0 0 0;fish 0 0 0;");
        tree(one, 0, 1, 0, 0, 0);
        tree(one, 0, 99, 0, 0, 0);
        Due.due("tree(1, 1, 0)", one.tree(1, 1, 0), Due.UNKNOWN);
    }

    /** "of like ones the first (Y by Y, X rising)". */
    private static void ofLikeTreesTheFirst() {
        // 0, 0 hides 0, 1 and 1, 0 hides 1, 1; in the last row a tree hides nothing.
        tree(Due.lakeOf("lake 2 2;door 0 0 0;"), 0, 1, 0, 1, 4);
        // What 1, 0 hides is worth nothing: it is as good as 0, 1, and ahead of it.
        tree(Due.lakeOf("lake 2 2;door 0 0 0;fish 1 1 0;"), 0, 1, 1, 0, 3);
        tree(Due.lakeOf("lake 1 3;door 0 0 0;"), 0, 1, 0, 2, 3);
        tree(Due.lakeOf("lake 3 1;door 2 0 0;"), 0, 99, 0, 0, 3);
    }

    /** "planted in place of what stands there": a lower one opens a view, though trees only hide. */
    private static void treesInPlaceOfWhatStands() {
        SeenWaters w = Due.lakeOf("lake 2 3;door 1 2 0;stand 1 1 9;fish 1 2 50;");
        Due.due("share(0)", w.share(0), 5);
        tree(w, 0, 1, 1, 1, 55);
        tree(w, 0, 2, 0, 0, 5);
        Due.due("what stands there stays", w.cell(1, 1, 0), 9);
        Due.due("share(0) stays", w.share(0), 5);
        // Every tree hides something, but for that in the place of a like one.
        SeenWaters like = Due.lakeOf("lake 1 2;door 0 0 0;stand 0 0 9;");
        tree(like, 0, 9, 0, 0, 1);
    }

    /** "what one STOREY more makes SHARE greater"; "NOT: it has 9". */
    private static void lastStoreyWins() {
        SeenWaters w = Due.lakeOf("lake 1 2;storey 1 999;door 0 0 7;stand 0 0 5;fish 0 1 7;");
        Due.due("wins(0) of 7", w.wins(0), 0);
        w.build(0);
        Due.due("wins(0) of 8", w.wins(0), 7);
        Due.due("man(0, 2)", w.man(0, 2), 8);
        Due.due("share(0)", w.share(0), 1);
        w.build(0);
        Due.due("share(0)", w.share(0), 8);
        Due.due("wins(0) of 9", w.wins(0), Due.NOT);
        Due.due("wins(1)", w.wins(1), Due.UNKNOWN);
        Due.due("wins(-1)", w.wins(-1), Due.UNKNOWN);
    }

    /** "how much greater SHARE is without what stands in a CELL": nothing stands there, or it hides nothing. */
    private static void worthOfNothing() {
        SeenWaters w = Due.lakeOf("lake 2 2;door 0 0 0;stand 1 1 99;");
        for (int c = 0; c < 4; c++) {
            Due.due("view(0, " + c % 2 + ", " + c / 2 + ")", w.view(0, c % 2, c / 2), 0);
        }
        Due.due("cell(1, 1, 0) stays", w.cell(1, 1, 0), 99);
        SeenWaters low = Due.lakeOf("lake 1 2;door 0 9 0;stand 0 0 5;fish 0 1 40;");
        Due.due("view over what is not higher", low.view(0, 0, 0), 0);
        low.plant(0, 0, 6);
        Due.due("view over what is higher", low.view(0, 0, 0), 40);
        // By LAW 0 a rival gets the other half of it: SHARE may be less without it.
        SeenWaters rival = Due.lakeOf("lake 1 2;door 0 9 0;door 0 0 0;stand 0 0 5;fish 0 1 40;");
        Due.due("view below 0", rival.view(0, 0, 0), -20);
        Due.due("view of the rival", rival.view(1, 0, 0), 20);
    }

    private static void worthOfOneOfTwo() {
        SeenWaters w = Due.lakeOf("lake 1 3;door 0 0 0;stand 0 0 9;stand 0 1 9;fish 0 1 20;fish 0 2 50;");
        Due.due("view(0, 0, 0)", w.view(0, 0, 0), 20);
        Due.due("view(0, 0, 1)", w.view(0, 0, 1), 0);
        w.plant(0, 0, 0);
        Due.due("view(0, 0, 1) alone", w.view(0, 0, 1), 50);
    }

    // ---- towers: two doors at one place; what stands in 0, 0 asks an EYE, the FISH are in 0, 1

    private static SeenWaters rivals(String storey, String first, String second, int high, int fish) {
        return Due.lakeOf("lake 1 2;storey " + storey + ";door 0 " + first + ";door 0 " + second
            + ";stand 0 0 " + high + ";fish 0 1 " + fish + ";fish 0 0 0;");
    }

    private static void towers(SeenWaters w, int n, int d, int worth, int first) {
        Due.due("towers(0, 1, " + n + ", " + d + ", 0)", w.towers(0, 1, n, d, 0), worth);
        Due.due("towers(0, 1, " + n + ", " + d + ", 1)", w.towers(0, 1, n, d, 1), first);
    }

    /** "n moves (0 .. 6)"; "NONE: no moves". Nobody can win anything here. */
    private static void movesOfZeroToSix() {
        SeenWaters w = rivals("1 1", "0 0", "0 0", 99, 50);
        towers(w, 0, 1, 0, Due.NONE);
        for (int n = 1; n <= 6; n++) {
            towers(w, n, 1, 0, 0);
        }
        Due.due("towers, n -1", w.towers(0, 1, -1, 1, 0), Due.OUTSIDE);
        Due.due("towers, n 7", w.towers(0, 1, 7, 1, 0), Due.OUTSIDE);
        Due.due("towers, what -1", w.towers(0, 1, 1, 1, -1), Due.OUTSIDE);
        Due.due("towers, what 2", w.towers(0, 1, 1, 1, 2), Due.OUTSIDE);
        SeenWaters seen = rivals("1 1", "98 9", "0 0", 50, 9);
        towers(seen, 0, 1, 9, Due.NONE);
        towers(seen, 0, 99, 891, Due.NONE);
    }

    /**
     * "one after the other, the first one begins": with k STOREYS needed the first one has them by 2k less 1
     * moves, and the second answers with the 2k-th; each STOREY costs 1.
     */
    private static void whoHasTheLastMove() {
        SeenWaters one = rivals("1 1", "0 0", "0 0", 1, 80);
        towers(one, 1, 1, 79, 1);
        towers(one, 2, 1, 0, 1);
        towers(one, 3, 1, 0, 0);
        SeenWaters two = Due.lakeOf("lake 1 3;storey 1 1;door 0 0 0;door 0 0 0;stand 0 1 1;fish 0 2 80;fish 0 0 0;fish 0 1 0;");
        towers(two, 2, 1, 0, 0);
        towers(two, 3, 1, 78, 1);
        towers(two, 4, 1, 0, 1);
        SeenWaters three = rivals("1 1", "0 0", "0 0", 2, 80);
        towers(three, 4, 1, 0, 0);
        towers(three, 5, 1, 77, 1);
        towers(three, 6, 1, 0, 1);
        SeenWaters four = Due.lakeOf("lake 1 5;storey 1 1;door 0 0 0;door 0 0 0;stand 0 3 1;fish 0 4 80;");
        towers(four, 5, 1, 0, 0);
        towers(four, 6, 1, 0, 0);
        four.build(0);
        towers(four, 4, 1, 0, 0);
        towers(four, 5, 1, 77, 1);
        towers(four, 6, 1, 77, 1);
    }

    /** "(waiting, if both are as good)". */
    private static void waitingIfAsGood() {
        towers(rivals("1 7", "0 0", "0 0", 1, 8), 1, 1, 1, 1);
        towers(rivals("1 8", "0 0", "0 0", 1, 8), 1, 1, 0, 0);
        towers(rivals("1 9", "0 0", "0 0", 1, 8), 1, 1, 0, 0);
        towers(rivals("1 0", "0 0", "0 0", 99, 8), 1, 1, 0, 0);
        towers(rivals("1 0", "0 0", "0 0", 99, 8), 6, 99, 0, 0);
    }

    /** "SHARE times d (1 .. 99)". */
    private static void weightsOfOneToNinetyNine() {
        towers(rivals("1 791", "0 0", "0 0", 1, 8), 1, 99, 1, 1);
        towers(rivals("1 792", "0 0", "0 0", 1, 8), 1, 99, 0, 0);
        towers(rivals("1 999", "0 0", "0 0", 1, 99), 1, 99, 99 * 99 - 999, 1);
        SeenWaters w = rivals("1 7", "0 0", "0 0", 1, 8);
        towers(w, 1, 1, 1, 1);
        Due.due("towers, d 0", w.towers(0, 1, 1, 0, 0), Due.OUTSIDE);
        Due.due("towers, d 100", w.towers(0, 1, 1, 100, 0), Due.OUTSIDE);
    }

    /** "each builds (if it has fewer than 9, at what it costs) or waits": 6 high asks EYE 12. */
    private static void towersOfFewerThanNine() {
        SeenWaters low = rivals("1 1", "1 8", "0 0", 6, 90);
        towers(low, 1, 1, 0, 0);
        towers(low, 6, 1, 0, 0);
        SeenWaters high = rivals("1 1", "2 8", "0 0", 6, 90);
        towers(high, 1, 1, 89, 1);
        towers(high, 2, 1, 89, 1);
        towers(high, 3, 1, 89, 0);
        SeenWaters seven = rivals("1 1", "2 7", "0 0", 6, 90);
        towers(seven, 1, 1, 0, 0);
        towers(seven, 3, 1, 88, 1);
        SeenWaters nine = rivals("1 1", "1 9", "0 0", 6, 90);
        towers(nine, 1, 99, 0, 0);
        towers(nine, 6, 99, 0, 0);
        SeenWaters secondLow = rivals("1 1", "0 0", "1 8", 6, 90);
        towers(secondLow, 2, 1, 0, 0);
        towers(secondLow, 6, 1, 0, 0);
        SeenWaters secondHigh = rivals("1 1", "0 0", "2 8", 6, 90);
        towers(secondHigh, 1, 1, 0, 0);
        towers(secondHigh, 2, 1, -89, 0);
        SeenWaters secondNine = rivals("1 1", "0 0", "1 9", 6, 90);
        towers(secondNine, 6, 1, 0, 0);
        SeenWaters both = rivals("1 1", "99 9", "98 9", 6, 91);
        towers(both, 6, 1, 0, 0);
        both.law(2);
        towers(both, 6, 99, 91 * 99, 0);
    }

    /** "less what it paid by these moves": not what its PURSE holds, nor what it paid ahead of them. */
    private static void paidByTheseMoves() {
        SeenWaters w = rivals("1 5", "0 0", "0 0", 1, 8);
        w.build(0);
        Due.due("PURSE", w.man(0, 4), -5);
        towers(w, 0, 1, 8, Due.NONE);
        towers(w, 1, 1, 8, 0);
        // The second one builds: 4 for each less its 5 is worse for the first than 8.
        towers(w, 2, 1, 5, 0);
        Due.due("towers of the second", w.towers(1, 0, 1, 1, 0), -5);
        Due.due("towers of the second", w.towers(1, 0, 1, 1, 1), 1);
        Due.due("PURSE stays", w.man(0, 4), -5);
        Due.due("STOREYS stay", w.man(1, 2), 0);
    }

    /** A third one SEES 0, 1 as well: by LAW 0 its FISH are parted, be towers asked first or later. */
    private static void othersHaveTheirParts() {
        SeenWaters w = Due.lakeOf("lake 1 2;storey 1 1;door 0 9 0;door 0 0 0;door 0 9 0;stand 0 0 1;fish 0 1 12;fish 0 0 0;");
        towers(w, 0, 1, 6, Due.NONE);
        towers(w, 0, 1, 6, Due.NONE);
        // Behind the second one's STOREY each has 4.
        towers(w, 2, 1, 1, 0);
        Due.due("share(0)", w.share(0), 6);
    }

    // ---- boats

    private static void boat(String lake, int... most) {
        SeenWaters w = Due.lakeOf(lake);
        for (int n = 1; n <= 8; n++) {
            Due.due("boat(0, " + n + ") of " + lake, w.boat(0, n), most[n - 1]);
        }
        Due.due("boat(0, 0)", w.boat(0, 0), Due.OUTSIDE);
        Due.due("boat(0, 9)", w.boat(0, 9), Due.OUTSIDE);
    }

    /** "n steps (1 .. 8) at most in all: the first from shore place a onto the CELL a, 0". */
    private static void stepsOfOneToEight() {
        boat("lake 1 12;door 0 0 0;fish 0 7 90;fish 0 8 99;", 1, 2, 3, 4, 5, 6, 7, 97);
        boat("lake 12 1;door 0 0 0;fish 7 0 90;fish 8 0 99;", 1, 2, 3, 4, 5, 6, 7, 97);
        boat("lake 12 1;door 11 0 0;fish 4 0 90;fish 3 0 99;", 1, 2, 3, 4, 5, 6, 7, 97);
        boat("lake 1 1;door 0 0 0;fish 0 0 7;", 7, 7, 7, 7, 7, 7, 7, 7);
        // "of each CELL once": back over 1, 0 for 5, not for 5 and 5.
        boat("lake 3 1;door 1 0 0;fish 1 0 5;fish 0 0 9;fish 2 0 8;", 5, 14, 14, 22, 22, 22, 22, 22);
        boat("lake 2 1;door 0 0 0;fish 0 0 5;fish 1 0 0;", 5, 5, 5, 5, 5, 5, 5, 5);
        // What is far to the right is more than what is near to the left.
        boat("lake 12 1;door 2 0 0;fish 0 0 99;fish 1 0 99;fish 2 0 0;fish 3 0 0;fish 4 0 99;fish 5 0 99;fish 6 0 99;"
            + "fish 7 0 99;fish 8 0 99;fish 9 0 99;", 0, 99, 198, 198, 297, 396, 495, 594);
    }

    /** "each step to one beside it (left, right, up, down)": none leads over the lake's side into another row. */
    private static void boatStaysOnTheLake() {
        boat("lake 5 2;door 0 9 0;fish 4 0 50;", 1, 2, 3, 4, 54, 55, 56, 57);
        boat("lake 5 2;door 4 9 0;fish 0 1 50;", 1, 2, 3, 4, 5, 55, 56, 57);
        // 1, 1 lies aslant: two steps away from 0, 0.
        boat("lake 2 2;door 0 9 0;fish 1 1 50;", 1, 2, 52, 53, 53, 53, 53, 53);
    }

    /** "all of them CELLS that it owns"; "NONE: a, 0 is not its own". */
    private static void boatOnOwnWater() {
        SeenWaters bare = Due.lakeOf("lake 2 1;door 0 0 0;fish 0 0 0;fish 1 0 0;");
        Due.due("boat without FISH", bare.boat(0, 8), 0);
        SeenWaters mist = Due.lakeOf("lake 12 1;door 5 0 0;mist 0 0 0;mist 1 1 1;mist 2 2 2;");
        int[] most = {Due.NONE, 3, 5, 7};
        for (int day = 0; day < most.length; day++) {
            Due.due("boat(0, 8) on DAY " + day, mist.boat(0, 8), most[day]);
            mist.day(1);
        }
        SeenWaters two = Due.lakeOf("lake 3 1;door 0 0 0;door 0 5 0;fish 0 0 9;");
        int[][] byLaw = {{4, 4}, {11, Due.NONE}, {Due.NONE, 11}};
        for (int law = 0; law < 3; law++) {
            two.law(law);
            Due.due("boat(0, 8) by LAW " + law, two.boat(0, 8), byLaw[law][0]);
            Due.due("boat(1, 8) by LAW " + law, two.boat(1, 8), byLaw[law][1]);
        }
        SeenWaters wall = Due.lakeOf("lake 1 3;door 0 0 0;stand 0 0 9;fish 0 2 90;");
        Due.due("boat up to what it does not own", wall.boat(0, 8), 1);
        // 1, 0 is not its own, the way round it is.
        SeenWaters around = Due.lakeOf("lake 3 2;door 0 9 0;door 1 0 0;fish 2 0 50;fish 1 0 70;mist 0 0 2;");
        around.law(1);
        Due.due("boat(0, 8) by LAW 1", around.boat(0, 8), 2);
        Due.due("boat(1, 8) by LAW 1", around.boat(1, 8), 70 + 50 + 2);
    }

    // ---- storeys needed

    /** "the fewest more by which it SEES all CELLS": none, if it SEES them. */
    private static void storeysNeededOfNone() {
        SeenWaters w = Due.lakeOf("lake 1 2;storey 1 0;door 0 8 0;door 0 9 0;door 0 7 0;stand 0 0 5;stand 0 1 99;");
        Due.due("needed(1): just as high", w.needed(1), 0);
        Due.due("needed(0): 1 too low", w.needed(0), 1);
        Due.due("needed(2): 2 too low", w.needed(2), 2);
        Due.due("needed(3)", w.needed(3), Due.UNKNOWN);
        Due.due("needed(-1)", w.needed(-1), Due.UNKNOWN);
        Due.due("needed(0) of one CELL", Due.lakeOf("lake 1 1;door 0 0 0;stand 0 0 99;").needed(0), 0);
    }

    /** From place 1 no line to a CELL that there is goes over the last one of the first row, on either side. */
    private static void storeysNeededForCellsThatThereAre() {
        Due.due("needed(0) beside all lines", Due.lakeOf("lake 2 3;door 1 0 0;stand 0 0 9;").needed(0), 0);
        Due.due("needed(0) beside all lines", Due.lakeOf("lake 4 3;door 1 0 0;stand 3 0 9;").needed(0), 0);
        Due.due("needed(0) in the last row", Due.lakeOf("lake 2 3;door 1 0 0;stand 0 2 9;stand 1 2 9;").needed(0), 0);
    }

    /** "(above 9, too": 99 high asks EYE 198. */
    private static void storeysNeededAboveNine() {
        SeenWaters w = Due.lakeOf("lake 1 2;storey 20 0;door 0 17 0;door 0 16 0;door 0 16 9;door 0 16 8;stand 0 0 99;");
        Due.due("needed(0): 9", w.needed(0), 9);
        Due.due("needed(1): 10", w.needed(1), 10);
        Due.due("needed(2) of one with 9", w.needed(2), 1);
        Due.due("needed(3) of one with 8", w.needed(3), 2);
    }

    /** "99 at most"; "NONE": 51 high asks EYE 102, 50 high EYE 100. */
    private static void storeysNeededOfNinetyNine() {
        SeenWaters w = Due.lakeOf("lake 1 2;storey 1 0;door 0 2 0;door 0 1 0;door 0 0 0;stand 0 0 51;");
        Due.due("needed(0): 99", w.needed(0), 99);
        Due.due("needed(1): 100", w.needed(1), Due.NONE);
        Due.due("needed(2): 101", w.needed(2), Due.NONE);
        w.plant(0, 0, 50);
        Due.due("needed(2): 99", w.needed(2), 99);
        Due.due("needed(1): 98", w.needed(1), 98);
        SeenWaters deep = Due.lakeOf("lake 1 12;storey 12 0;door 0 0 0;stand 0 10 99;");
        Due.due("needed(0): EYE 1188 by 99 times 12 and 1", deep.needed(0), 99);
        SeenWaters low = Due.lakeOf("lake 1 12;storey 11 0;door 0 0 0;door 0 99 0;stand 0 10 99;");
        Due.due("needed(0): EYE 1188, too low", low.needed(0), Due.NONE);
        Due.due("needed(1): EYE 1188 from 100", low.needed(1), 99);
    }

    /** "all CELLS that mist lets it". */
    private static void storeysNeededInMist() {
        SeenWaters w = Due.lakeOf("lake 1 3;storey 1 0;door 0 0 0;stand 0 0 3;stand 0 1 3;mist 0 0 0;mist 1 1 1;mist 2 2 2;mist 3 3 3;");
        int[] needed = {0, 0, 5, 8, 8};
        for (int day = 0; day < needed.length; day++) {
            Due.due("needed(0) on DAY " + day, w.needed(0), needed[day]);
            w.day(1);
        }
        // The line to 3, 1 goes over 2, 0, that to 2, 1 over 1, 0.
        SeenWaters wide = Due.lakeOf("lake 4 2;storey 1 0;door 0 0 0;stand 2 0 1;mist 0 0 2;mist 1 1 3;");
        Due.due("needed(0), 2 far", wide.needed(0), 0);
        wide.day(1);
        Due.due("needed(0), 3 far", wide.needed(0), 1);
    }
}
