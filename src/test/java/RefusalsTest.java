import java.util.List;
import java.util.function.Supplier;
import java.util.function.ToIntFunction;

/**
 * "REFUSALS, of several the first in this order: UNKNOWN, OUTSIDE, NOT, FULL. What is refused changes nothing."
 * Each refusal of each promise, in an object that has something of everything, and after each of them a look
 * at all that is told: it is held against an object that was never asked.
 */
public final class RefusalsTest {
    private static final int[] NO_MEN = {-1, 2, 6, Due.LEAST, Due.MOST};
    private static final int[][] NO_CELLS = {{-1, 0}, {3, 0}, {0, -1}, {0, 2}, {3, 2}, {-1, -1},
        {Due.LEAST, 0}, {Due.MOST, 0}, {0, Due.LEAST}, {0, Due.MOST}, {Due.MOST, Due.MOST}, {Due.LEAST, Due.LEAST}};

    private final Supplier<SeenWaters> state;
    private final List<String> portrait;

    private RefusalsTest(Supplier<SeenWaters> state) {
        this.state = state;
        this.portrait = Portrait.of(state.get());
    }

    public static void main(String[] args) {
        RefusalsTest rich = new RefusalsTest(RefusalsTest::richWithText);
        rich.lakeCalls();
        rich.cellsThatThereAreNot();
        rich.menThatThereAreNot();
        rich.deeds();
        rich.tried();
        rich.towersOutside();
        rich.booksDrawsImages();
        rich.answersChangeNothing();
        new RefusalsTest(RefusalsTest::full).fullOfAll();
        new RefusalsTest(SeenWaters::new).withoutCells();
        new RefusalsTest(RefusalsTest::emptied).withoutCells();
        new RefusalsTest(RefusalsTest::withoutMen).withoutFishermen();
        faultsChangeNothing();
        Due.end("RefusalsTest");
    }

    // ---- states: 3 CELLS along the shore, 2 away from it; two FISHERMEN, the first one with 9 STOREYS

    private static SeenWaters rich() {
        SeenWaters w = Due.lakeOf("lake 3 2;storey 2 5;door 0 1 9;door 2 0 3;stand 1 0 2;fish 2 1 30;mist 2 3 2;");
        w.law(1);
        w.seed(77);
        w.day(1);
        w.build(1);
        w.keep(0);
        w.plant(0, 0, 4);
        w.day(1);
        w.law(2);
        w.seed(78);
        w.write(0, 2, 1);
        w.write(1, 0, 0);
        Due.tell(w, "lake 2 2 2;");
        Due.due("lake() of a text with a FAULT", w.lake(), -11);
        return w;
    }

    private static SeenWaters richWithText() {
        SeenWaters w = rich();
        Due.tell(w, "lake 3 ");
        return w;
    }

    private static SeenWaters full() {
        SeenWaters w = rich();
        for (int k = 2; k < 40; k++) {
            w.write(0, 0, 0);
        }
        Due.tell(w, "lake 3 1;" + " ".repeat(491));
        return w;
    }

    private static SeenWaters emptied() {
        SeenWaters w = Due.lakeOf("lake 3 2;door 0 1 9;");
        w.law(1);
        w.seed(5);
        w.day(3);
        w.lake();
        return w;
    }

    private static SeenWaters withoutMen() {
        SeenWaters w = Due.lakeOf("lake 3 2;stand 0 0 1;");
        w.seed(5);
        w.day(2);
        return w;
    }

    private void refused(String name, int want, ToIntFunction<SeenWaters> call) {
        SeenWaters w = state.get();
        Due.due(name, call.applyAsInt(w), want);
        Due.alike(name, Portrait.of(w), portrait);
    }

    private void changesNothing(String name, ToIntFunction<SeenWaters> call) {
        SeenWaters w = state.get();
        call.applyAsInt(w);
        Due.alike(name, Portrait.of(w), portrait);
    }

    // ---- promises 2 to 11

    private void lakeCalls() {
        for (int n : new int[] {0, -1, 9, Due.LEAST, Due.MOST}) {
            refused("feed(" + n + ", -1)", Due.OUTSIDE, w -> w.feed(n, -1L));
        }
        for (int what : new int[] {-1, 11, Due.LEAST, Due.MOST}) {
            refused("told(" + what + ")", Due.OUTSIDE, w -> w.told(what));
        }
        for (int what : new int[] {-1, 4, Due.LEAST, Due.MOST}) {
            refused("cell(2, 1, " + what + ")", Due.OUTSIDE, w -> w.cell(2, 1, what));
        }
        for (int what : new int[] {-1, 7, Due.LEAST, Due.MOST}) {
            refused("man(1, " + what + ")", Due.OUTSIDE, w -> w.man(1, what));
        }
    }

    private void cellsThatThereAreNot() {
        for (int[] at : NO_CELLS) {
            int x = at[0];
            int y = at[1];
            String place = x + ", " + y;
            for (int what : new int[] {0, 1, 2, 3, -1, 4}) {
                refused("cell(" + place + ", " + what + ")", Due.UNKNOWN, w -> w.cell(x, y, what));
            }
            for (int t : new int[] {0, 99, -1, 100}) {
                refused("plant(" + place + ", " + t + ")", Due.UNKNOWN, w -> w.plant(x, y, t));
            }
            for (int f : new int[] {0, 1, -1, 2}) {
                refused("sees(" + f + ", " + place + ")", Due.UNKNOWN, w -> w.sees(f, x, y));
                refused("blocker(" + f + ", " + place + ")", Due.UNKNOWN, w -> w.blocker(f, x, y));
                refused("view(" + f + ", " + place + ")", Due.UNKNOWN, w -> w.view(f, x, y));
                refused("write(" + f + ", " + place + ")", Due.UNKNOWN, w -> w.write(f, x, y));
            }
        }
    }

    private void menThatThereAreNot() {
        for (int f : NO_MEN) {
            for (int what : new int[] {0, 3, 6, -1, 7}) {
                refused("man(" + f + ", " + what + ")", Due.UNKNOWN, w -> w.man(f, what));
            }
            refused("sees(" + f + ", 0, 0)", Due.UNKNOWN, w -> w.sees(f, 0, 0));
            refused("blocker(" + f + ", 0, 0)", Due.UNKNOWN, w -> w.blocker(f, 0, 0));
            refused("share(" + f + ")", Due.UNKNOWN, w -> w.share(f));
            refused("build(" + f + ")", Due.UNKNOWN, w -> w.build(f));
            refused("wins(" + f + ")", Due.UNKNOWN, w -> w.wins(f));
            refused("view(" + f + ", 0, 0)", Due.UNKNOWN, w -> w.view(f, 0, 0));
            refused("needed(" + f + ")", Due.UNKNOWN, w -> w.needed(f));
            refused("write(" + f + ", 0, 0)", Due.UNKNOWN, w -> w.write(f, 0, 0));
            for (int[] more : new int[][] {{1, 0}, {99, 2}, {0, 0}, {100, 0}, {1, -1}, {1, 3}}) {
                refused("tree(" + f + ", " + more[0] + ", " + more[1] + ")", Due.UNKNOWN, w -> w.tree(f, more[0], more[1]));
            }
            for (int n : new int[] {1, 8, 0, 9}) {
                refused("boat(" + f + ", " + n + ")", Due.UNKNOWN, w -> w.boat(f, n));
            }
            for (int[] more : new int[][] {{0, 1, 0}, {6, 99, 1}, {-1, 1, 0}, {7, 1, 0}, {1, 0, 0}, {1, 100, 0}, {1, 1, -1}, {1, 1, 2}}) {
                String rest = more[0] + ", " + more[1] + ", " + more[2] + ")";
                refused("towers(" + f + ", 1, " + rest, Due.UNKNOWN, w -> w.towers(f, 1, more[0], more[1], more[2]));
                refused("towers(1, " + f + ", " + rest, Due.UNKNOWN, w -> w.towers(1, f, more[0], more[1], more[2]));
                refused("towers(" + f + ", " + f + ", " + rest, Due.UNKNOWN, w -> w.towers(f, f, more[0], more[1], more[2]));
            }
        }
    }

    // ---- promises 12 to 16; build(0): it has 9

    private void deeds() {
        for (int v : new int[] {-1, 3, Due.LEAST, Due.MOST}) {
            refused("law(" + v + ")", Due.OUTSIDE, w -> w.law(v));
        }
        refused("build(0)", Due.NOT, w -> w.build(0));
        for (int t : new int[] {-1, 100, Due.LEAST, Due.MOST}) {
            refused("plant(2, 1, " + t + ")", Due.OUTSIDE, w -> w.plant(2, 1, t));
        }
        for (int n : new int[] {0, -1, 100, Due.LEAST, Due.MOST}) {
            refused("day(" + n + ")", Due.OUTSIDE, w -> w.day(n));
            refused("drift(" + n + ")", Due.OUTSIDE, w -> w.drift(n));
        }
    }

    // ---- promises 18 to 23

    private void tried() {
        for (int t : new int[] {0, -1, 100, Due.LEAST, Due.MOST}) {
            refused("tree(1, " + t + ", 0)", Due.OUTSIDE, w -> w.tree(1, t, 0));
        }
        for (int what : new int[] {-1, 3, Due.LEAST, Due.MOST}) {
            refused("tree(1, 1, " + what + ")", Due.OUTSIDE, w -> w.tree(1, 1, what));
        }
        refused("wins(0)", Due.NOT, w -> w.wins(0));
        for (int n : new int[] {0, -1, 9, Due.LEAST, Due.MOST}) {
            refused("boat(0, " + n + ")", Due.OUTSIDE, w -> w.boat(0, n));
        }
    }

    private void towersOutside() {
        for (int f = 0; f < 2; f++) {
            int twice = f;
            refused("towers of one twice", Due.UNKNOWN, w -> w.towers(twice, twice, 1, 1, 0));
            refused("towers of one twice, n out", Due.UNKNOWN, w -> w.towers(twice, twice, 7, 1, 0));
            refused("towers of one twice, d out", Due.UNKNOWN, w -> w.towers(twice, twice, 1, 0, 0));
            refused("towers of one twice, what out", Due.UNKNOWN, w -> w.towers(twice, twice, 1, 1, 2));
        }
        for (int n : new int[] {-1, 7, Due.LEAST, Due.MOST}) {
            refused("towers(0, 1, " + n + ", 1, 0)", Due.OUTSIDE, w -> w.towers(0, 1, n, 1, 0));
            refused("towers(0, 1, " + n + ", 1, 1)", Due.OUTSIDE, w -> w.towers(0, 1, n, 1, 1));
        }
        for (int d : new int[] {0, -1, 100, Due.LEAST, Due.MOST}) {
            refused("towers(0, 1, 1, " + d + ", 0)", Due.OUTSIDE, w -> w.towers(0, 1, 1, d, 0));
            refused("towers(0, 1, 0, " + d + ", 1)", Due.OUTSIDE, w -> w.towers(0, 1, 0, d, 1));
        }
        for (int what : new int[] {-1, 2, Due.LEAST, Due.MOST}) {
            refused("towers(0, 1, 1, 1, " + what + ")", Due.OUTSIDE, w -> w.towers(0, 1, 1, 1, what));
            refused("towers(0, 1, 0, 1, " + what + ")", Due.OUTSIDE, w -> w.towers(0, 1, 0, 1, what));
        }
    }

    // ---- promises 24 to 29; IMAGE 1 was not kept

    private void booksDrawsImages() {
        for (int v : new int[] {-1, -2, Due.LEAST}) {
            refused("seed(" + v + ")", Due.OUTSIDE, w -> w.seed(v));
        }
        for (int i : new int[] {-1, 2, Due.LEAST, Due.MOST}) {
            refused("keep(" + i + ")", Due.UNKNOWN, w -> w.keep(i));
            refused("goBack(" + i + ")", Due.UNKNOWN, w -> w.goBack(i));
        }
        refused("goBack(1)", Due.NOT, w -> w.goBack(1));
    }

    /** "TRIED ...; nothing changes by it"; nor by what is told. */
    private void answersChangeNothing() {
        changesNothing("fault()", w -> w.fault());
        for (int k = 0; k <= 10; k++) {
            int what = k;
            changesNothing("told(" + what + ")", w -> w.told(what));
        }
        for (int i : new int[] {-1, 0, 60, Due.LEAST, Due.MOST}) {
            changesNothing("free(" + i + ")", w -> w.free(i));
        }
        for (int k = 0; k < 12; k++) {
            int f = k / 6;
            int x = k % 3;
            int y = k / 3 % 2;
            changesNothing("sees", w -> w.sees(f, x, y));
            changesNothing("blocker", w -> w.blocker(f, x, y));
            changesNothing("view(" + f + ", " + x + ", " + y + ")", w -> w.view(f, x, y));
            changesNothing("cell", w -> w.cell(x, y, f + 2));
        }
        for (int m = 0; m < 2; m++) {
            int f = m;
            changesNothing("share", w -> w.share(f));
            changesNothing("needed", w -> w.needed(f));
            changesNothing("boat", w -> w.boat(f, 8));
            changesNothing("tree", w -> w.tree(f, 1, 2));
            changesNothing("tree", w -> w.tree(f, 99, 0));
            changesNothing("man", w -> w.man(f, 6));
            changesNothing("towers", w -> w.towers(f, 1 - f, 6, 99, 0));
            changesNothing("towers", w -> w.towers(f, 1 - f, 5, 1, 1));
        }
        changesNothing("wins(1)", w -> w.wins(1));
        changesNothing("judge()", w -> w.judge());
    }

    /** FULL comes last: behind OUTSIDE in feed, behind UNKNOWN in write. */
    private void fullOfAll() {
        for (int n = 1; n <= 8; n++) {
            int bytes = n;
            refused("feed(" + n + ", 0) behind 500", Due.FULL, w -> w.feed(bytes, 0));
        }
        for (int n : new int[] {0, -1, 9, Due.LEAST, Due.MOST}) {
            refused("feed(" + n + ", 0) behind 500", Due.OUTSIDE, w -> w.feed(n, 0));
        }
        refused("write(0, 0, 0) behind 40", Due.FULL, w -> w.write(0, 0, 0));
        refused("write(1, 2, 1) behind 40", Due.FULL, w -> w.write(1, 2, 1));
        for (int f : NO_MEN) {
            refused("write(" + f + ", 0, 0) behind 40", Due.UNKNOWN, w -> w.write(f, 0, 0));
        }
        for (int[] at : NO_CELLS) {
            refused("write(0, " + at[0] + ", " + at[1] + ") behind 40", Due.UNKNOWN, w -> w.write(0, at[0], at[1]));
        }
    }

    /** No CELLS, no FISHERMEN: all of them are UNKNOWN, and no DAY goes by; OUTSIDE is ahead of NOT. */
    private void withoutCells() {
        for (int what : new int[] {0, 3, -1, 4}) {
            refused("cell(0, 0, " + what + ")", Due.UNKNOWN, w -> w.cell(0, 0, what));
            refused("man(0, " + what + ")", Due.UNKNOWN, w -> w.man(0, what));
        }
        refused("sees(0, 0, 0)", Due.UNKNOWN, w -> w.sees(0, 0, 0));
        refused("blocker(0, 0, 0)", Due.UNKNOWN, w -> w.blocker(0, 0, 0));
        refused("share(0)", Due.UNKNOWN, w -> w.share(0));
        refused("build(0)", Due.UNKNOWN, w -> w.build(0));
        refused("plant(0, 0, 0)", Due.UNKNOWN, w -> w.plant(0, 0, 0));
        refused("plant(0, 0, 100)", Due.UNKNOWN, w -> w.plant(0, 0, 100));
        refused("tree(0, 1, 0)", Due.UNKNOWN, w -> w.tree(0, 1, 0));
        refused("wins(0)", Due.UNKNOWN, w -> w.wins(0));
        refused("view(0, 0, 0)", Due.UNKNOWN, w -> w.view(0, 0, 0));
        refused("towers(0, 1, 0, 1, 0)", Due.UNKNOWN, w -> w.towers(0, 1, 0, 1, 0));
        refused("boat(0, 1)", Due.UNKNOWN, w -> w.boat(0, 1));
        refused("needed(0)", Due.UNKNOWN, w -> w.needed(0));
        refused("write(0, 0, 0)", Due.UNKNOWN, w -> w.write(0, 0, 0));
        refused("goBack(0)", Due.NOT, w -> w.goBack(0));
        refused("goBack(1)", Due.NOT, w -> w.goBack(1));
        refused("goBack(2)", Due.UNKNOWN, w -> w.goBack(2));
        refused("free(0)", Due.NONE, w -> w.free(0));
        refused("judge()", Due.NONE, w -> w.judge());
        refused("tear()", 0, w -> w.tear());
        refused("told(10)", 0, w -> w.told(10));
        daysThatAreNot();
    }

    private void daysThatAreNot() {
        for (int n : new int[] {1, 99}) {
            refused("day(" + n + ")", Due.NOT, w -> w.day(n));
            refused("drift(" + n + ")", Due.NOT, w -> w.drift(n));
        }
        for (int n : new int[] {0, 100, -1, Due.LEAST, Due.MOST}) {
            refused("day(" + n + ")", Due.OUTSIDE, w -> w.day(n));
            refused("drift(" + n + ")", Due.OUTSIDE, w -> w.drift(n));
        }
    }

    /** CELLS without FISHERMEN: DAYS go by, but there is no season. */
    private void withoutFishermen() {
        for (int n : new int[] {1, 99}) {
            refused("drift(" + n + ")", Due.NOT, w -> w.drift(n));
            Due.due("day(" + n + ")", state.get().day(n), 2 + n);
        }
        for (int n : new int[] {0, 100}) {
            refused("drift(" + n + ")", Due.OUTSIDE, w -> w.drift(n));
            refused("day(" + n + ")", Due.OUTSIDE, w -> w.day(n));
        }
        refused("man(0, 0)", Due.UNKNOWN, w -> w.man(0, 0));
        refused("write(0, 0, 0)", Due.UNKNOWN, w -> w.write(0, 0, 0));
        refused("share(0)", Due.UNKNOWN, w -> w.share(0));
        refused("sees(0, 0, 0)", Due.UNKNOWN, w -> w.sees(0, 0, 0));
    }

    /** "-10 less the number of its FAULT (all is as it was)". */
    private static void faultsChangeNothing() {
        String[] texts = {"oops", "lake 1 1;door 0 0 0;fish 0 0 9;storey 1 1;mist 0 9 0;stand 0 0 1;oops",
            "lake 12 6;", "lake 1 1;door 0 0 10;", "lake 1 1;lake 1 1;", "lake 1 1;storey 9 9;storey 9 9;",
            "lake 1 2;stand 0 1 1;stand 0 1 1;", "lake 1 1;mist 1 0 5;", "lake 1 1"};
        int[] kinds = {1, 1, 2, 2, 3, 3, 4, 4, 1};
        int[] places = {0, 65, 8, 18, 9, 20, 29, 16, 8};
        List<String> before = Portrait.withoutFault(rich());
        for (int i = 0; i < texts.length; i++) {
            SeenWaters w = rich();
            Due.tell(w, texts[i]);
            Due.due("lake() of '" + texts[i] + "'", w.lake(), -10 - kinds[i]);
            Due.due("fault() of '" + texts[i] + "'", w.fault(), places[i]);
            Due.alike("lake() of '" + texts[i] + "'", Portrait.withoutFault(w), before);
        }
    }
}
