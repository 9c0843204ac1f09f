/** The edges of promises 24 to 29: THE BOOK, THE SEED, IMAGES. */
public final class BookEdgesTest {
    public static void main(String[] args) {
        fortyClaims();
        judgedFirstAndLast();
        judgedNow();
        lastFishermanAndCell();
        bookStaysAndGoes();
        seedsUpToTheGreatest();
        drawsWrapAround();
        imagesNoughtAndOne();
        notKept();
        eachThingInAnImage();
        notInAnImage();
        imagesOfImages();
        imagesStayAndGo();
        Due.end("BookEdgesTest");
    }

    /** 0, 0 is its own, 0, 1 is hidden from it. */
    private static SeenWaters hidden() {
        return Due.lakeOf("lake 1 2;door 0 0 0;stand 0 0 9;");
    }

    /** "claims (40 at most)"; "FULL (40)"; "THE BOOK is empty: how many claims it had". */
    private static void fortyClaims() {
        SeenWaters w = hidden();
        Due.due("tear() of none", w.tear(), 0);
        for (int turn = 0; turn < 2; turn++) {
            for (int k = 1; k <= 40; k++) {
                Due.due("write", w.write(0, 0, 0), k);
                Due.due("told(7)", w.told(7), k);
            }
            Due.due("write behind 40", w.write(0, 0, 0), Due.FULL);
            Due.due("write behind 40", w.write(0, 0, 1), Due.FULL);
            Due.due("told(7)", w.told(7), 40);
            Due.due("judge() of 40", w.judge(), Due.NONE);
            Due.due("tear() of 40", w.tear(), 40);
            Due.due("told(7)", w.told(7), 0);
            Due.due("tear() again", w.tear(), 0);
        }
    }

    /** "WRONG: the first who does not own it now; NONE." */
    private static void judgedFirstAndLast() {
        for (int wrong : new int[] {0, 1, 20, 38, 39}) {
            SeenWaters w = hidden();
            for (int k = 0; k < 40; k++) {
                w.write(0, 0, k == wrong ? 1 : 0);
            }
            Due.due("judge(), wrong in " + wrong, w.judge(), wrong);
        }
        SeenWaters all = hidden();
        Due.due("judge() of an empty book", all.judge(), Due.NONE);
        all.write(0, 0, 1);
        all.write(0, 0, 1);
        Due.due("judge() of two that are wrong", all.judge(), 0);
        all.tear();
        Due.due("judge() of a torn book", all.judge(), Due.NONE);
        all.write(0, 0, 0);
        Due.due("judge() of one that is right", all.judge(), Due.NONE);
        all.write(0, 0, 1);
        Due.due("judge() of the second", all.judge(), 1);
        Due.due("judge() of no CELLS", new SeenWaters().judge(), Due.NONE);
    }

    private static void judgedNow() {
        SeenWaters w = hidden();
        w.write(0, 0, 1);
        Due.due("judge() behind a tree", w.judge(), 0);
        w.plant(0, 0, 0);
        Due.due("judge() without it", w.judge(), Due.NONE);
        SeenWaters mist = Due.lakeOf("lake 1 2;door 0 0 0;mist 1 1 1;");
        mist.write(0, 0, 1);
        int[] due = {Due.NONE, 0, Due.NONE};
        for (int day = 0; day < due.length; day++) {
            Due.due("judge() on DAY " + day, mist.judge(), due[day]);
            mist.day(1);
        }
        SeenWaters laws = Due.lakeOf("lake 2 1;door 0 0 0;door 1 9 0;");
        laws.write(0, 0, 0);
        laws.write(1, 0, 0);
        int[] byLaw = {Due.NONE, 1, 0};
        for (int law = 0; law < 3; law++) {
            laws.law(law);
            Due.due("judge() by LAW " + law, laws.judge(), byLaw[law]);
        }
    }

    private static void lastFishermanAndCell() {
        SeenWaters w = Due.lakeOf("lake 12 5;" + "door 11 0 0;".repeat(6));
        Due.due("write(5, 11, 4)", w.write(5, 11, 4), 1);
        Due.due("judge()", w.judge(), Due.NONE);
        w.law(1);
        Due.due("judge() by LAW 1: the least of like ones", w.judge(), 0);
        Due.due("write(6, 11, 4)", w.write(6, 11, 4), Due.UNKNOWN);
        Due.due("write(5, 12, 4)", w.write(5, 12, 4), Due.UNKNOWN);
        Due.due("write(5, 11, 5)", w.write(5, 11, 5), Due.UNKNOWN);
        Due.due("write(-1, 0, 0)", w.write(-1, 0, 0), Due.UNKNOWN);
        Due.due("write(0, -1, 0)", w.write(0, -1, 0), Due.UNKNOWN);
        Due.due("write(0, 0, -1)", w.write(0, 0, -1), Due.UNKNOWN);
        Due.due("write(0, 0, 0)", w.write(0, 0, 0), 2);
    }

    private static void bookStaysAndGoes() {
        SeenWaters w = hidden();
        w.write(0, 0, 0);
        w.write(0, 0, 1);
        w.keep(0);
        w.begin();
        Due.due("judge() behind begin()", w.judge(), 1);
        w.write(0, 0, 0);
        w.goBack(0);
        Due.due("told(7) behind goBack(0)", w.told(7), 3);
        w.drift(1);
        w.day(1);
        Due.due("told(7) behind DAYS", w.told(7), 3);
        Due.tell(w, "oops");
        w.lake();
        Due.due("told(7) behind a FAULT", w.told(7), 3);
        Due.tell(w, "lake 1 2;door 0 0 0;stand 0 0 9;");
        w.lake();
        Due.due("told(7) behind a lake", w.told(7), 0);
        Due.due("judge() behind a lake", w.judge(), Due.NONE);
    }

    /** "THE SEED becomes v (0 .. 2147483647): what it was. OUTSIDE." */
    private static void seedsUpToTheGreatest() {
        SeenWaters w = new SeenWaters();
        int was = 0;
        for (int v : new int[] {0, 1, 2147483647, 2147483646, 0, 2147483647, 0}) {
            Due.due("seed(" + v + ")", w.seed(v), was);
            Due.due("seed(-1)", w.seed(-1), Due.OUTSIDE);
            Due.due("seed(least)", w.seed(Due.LEAST), Due.OUTSIDE);
            was = v;
        }
    }

    private static int drawnFrom(int seed) {
        SeenWaters w = Due.lakeOf("lake 1 1;storey 1 0;door 0 0 0;");
        w.seed(seed);
        w.drift(1);
        return w.seed(0);
    }

    /**
     * "it becomes it times 1103515245 and 12345, left over by 2 to the 31". 2147483647 is 1 below 2 to the 31, and
     * 1073741824 the half of it, which an odd number leaves as it is.
     */
    private static void drawsWrapAround() {
        Due.due("0", drawnFrom(0), 12345);
        Due.due("1", drawnFrom(1), 1103515245 + 12345);
        Due.due("2", drawnFrom(2), (int) (2 * 1103515245L + 12345 - 2147483648L));
        Due.due("the greatest", drawnFrom(2147483647), (int) (2147483648L - 1103515245L + 12345));
        Due.due("the half", drawnFrom(1073741824), 1073741824 + 12345);
        Due.due("12345", drawnFrom(12345), 1406932606);
        Due.due("1406932606", drawnFrom(1406932606), 654583775);
        // The greatest THE SEED can be: the DRAW is 32767, left over by 6: 1, by 10: 7.
        SeenWaters w = Due.lakeOf("lake 6 1;storey 1 0;" + "door 0 0 0;".repeat(6));
        w.seed(seedBefore(2147483647L));
        w.drift(1);
        Due.due("STOREYS of who is drawn by 32767", w.man(1, 2), 1);
        Due.due("THE SEED", w.seed(0), 2147483647);
    }

    /** The SEED that a DRAW makes into another one. Each round doubles how many bits of the inverse are right. */
    private static int seedBefore(long seed) {
        long factor = 1103515245L;
        long inverse = 1;
        for (int k = 0; k < 5; k++) {
            inverse = inverse * (2 - factor * inverse) & 2147483647L;
        }
        return (int) ((seed - 12345) * inverse & 2147483647L);
    }

    /** "IMAGES 0, 1"; "UNKNOWN". */
    private static void imagesNoughtAndOne() {
        SeenWaters w = hidden();
        for (int i = -2; i <= 3; i++) {
            boolean there = i == 0 || i == 1;
            Due.due("goBack(" + i + ")", w.goBack(i), there ? Due.NOT : Due.UNKNOWN);
            Due.due("keep(" + i + ")", w.keep(i), there ? 1 : Due.UNKNOWN);
            Due.due("goBack(" + i + ")", w.goBack(i), there ? 1 : Due.UNKNOWN);
        }
    }

    /** "NOT: it was not kept": each for itself. */
    private static void notKept() {
        for (int i = 0; i < 2; i++) {
            SeenWaters w = hidden();
            w.keep(i);
            Due.due("goBack of the other", w.goBack(1 - i), Due.NOT);
            Due.due("goBack of it", w.goBack(i), 1);
            Due.due("goBack of it again", w.goBack(i), 1);
            Due.due("goBack of the other", w.goBack(1 - i), Due.NOT);
        }
    }

    private static SeenWaters stirred() {
        SeenWaters w = Due.lakeOf("lake 2 1;storey 1 5;door 0 0 2;door 1 0 8;stand 1 0 4;");
        w.law(1);
        w.seed(2147483647);
        w.day(3);
        w.build(1);
        w.plant(0, 0, 6);
        return w;
    }

    /** "keep STOREYS, PURSES, what stands, THE DAY, LAW, THE SEED": one of them changed at a time. */
    private static void eachThingInAnImage() {
        for (int i = 0; i < 2; i++) {
            SeenWaters w = stirred();
            w.keep(i);
            w.build(0);
            w.goBack(i);
            Due.due("STOREYS of 0", w.man(0, 2), 2);
            Due.due("PURSE of 0", w.man(0, 4), 3);
            Due.due("STOREYS of 1", w.man(1, 2), 9);
            Due.due("PURSE of 1", w.man(1, 4), 3 - 5);
            w.plant(0, 0, 0);
            w.plant(1, 0, 99);
            w.goBack(i);
            Due.due("what stands in 0, 0", w.cell(0, 0, 0), 6);
            Due.due("what stands in 1, 0", w.cell(1, 0, 0), 4);
            w.day(9);
            w.goBack(i);
            Due.due("THE DAY", w.told(5), 3);
            Due.due("PURSE of 0", w.man(0, 4), 3);
            w.law(2);
            w.goBack(i);
            Due.due("LAW", w.told(4), 1);
            w.seed(0);
            w.goBack(i);
            Due.due("THE SEED", w.seed(7), 2147483647);
            w.begin();
            w.goBack(i);
            Due.due("THE DAY behind begin()", w.told(5), 3);
            Due.due("THE SEED behind begin()", w.seed(7), 2147483647);
            w.drift(40);
            w.goBack(i);
            Due.due("STOREYS behind drift(40)", w.man(0, 2), 2);
            Due.due("THE DAY behind drift(40)", w.told(5), 3);
        }
    }

    private static void notInAnImage() {
        SeenWaters w = stirred();
        w.write(0, 0, 0);
        w.keep(0);
        w.write(0, 1, 0);
        Due.tell(w, "lake 0");
        w.lake();
        Due.tell(w, "lake");
        w.goBack(0);
        Due.due("THE BOOK", w.told(7), 2);
        Due.due("THE TEXT", w.told(3), 4);
        Due.due("the FAULT", w.fault(), 5);
    }

    private static void imagesOfImages() {
        SeenWaters w = hidden();
        w.day(1);
        w.keep(0);
        w.day(1);
        w.keep(1);
        w.goBack(0);
        Due.due("THE DAY of IMAGE 0", w.told(5), 1);
        w.goBack(1);
        Due.due("THE DAY of IMAGE 1", w.told(5), 2);
        w.keep(0);
        w.day(1);
        w.goBack(0);
        Due.due("THE DAY of IMAGE 0, kept again", w.told(5), 2);
        w.plant(0, 0, 3);
        w.goBack(1);
        Due.due("IMAGE 1 is not what goes on", w.cell(0, 0, 0), 9);
    }

    /** "IMAGES are gone" with a lake; they stay with all else. */
    private static void imagesStayAndGo() {
        for (String text : new String[] {"", "lake 1 2;door 0 0 0;stand 0 0 9;"}) {
            SeenWaters w = hidden();
            w.keep(0);
            w.keep(1);
            w.begin();
            w.tear();
            Due.tell(w, "oops");
            w.lake();
            Due.due("goBack(0) behind a FAULT", w.goBack(0), 1);
            Due.due("goBack(1) behind a FAULT", w.goBack(1), 1);
            Due.tell(w, text);
            w.lake();
            Due.due("goBack(0) behind a lake", w.goBack(0), Due.NOT);
            Due.due("goBack(1) behind a lake", w.goBack(1), Due.NOT);
            Due.due("keep(1)", w.keep(1), 1);
            Due.due("goBack(1)", w.goBack(1), 1);
            Due.due("goBack(0)", w.goBack(0), Due.NOT);
        }
        SeenWaters bare = new SeenWaters();
        bare.seed(3);
        Due.due("keep(0) of no CELLS", bare.keep(0), 1);
        bare.seed(4);
        Due.due("goBack(0) of no CELLS", bare.goBack(0), 1);
        Due.due("THE SEED", bare.seed(0), 3);
    }
}
