/** Promises 24 to 29: write, tear, judge, seed, keep, goBack. */
public final class BooksTest {
    public static void main(String[] args) {
        claims();
        fullBook();
        judging();
        seeds();
        images();
        imagesOfNothing();
        Due.end("BooksTest");
    }

    private static void claims() {
        SeenWaters w = Due.lakeOf("lake 2 1;door 0 0 0;");
        Due.due("tear()", w.tear(), 0);
        Due.due("write(0, 1, 0)", w.write(0, 1, 0), 1);
        Due.due("write(0, 1, 0) again", w.write(0, 1, 0), 2);
        Due.due("write(1, 0, 0)", w.write(1, 0, 0), Due.UNKNOWN);
        Due.due("write(-1, 0, 0)", w.write(-1, 0, 0), Due.UNKNOWN);
        Due.due("write(0, 2, 0)", w.write(0, 2, 0), Due.UNKNOWN);
        Due.due("write(0, -1, 0)", w.write(0, -1, 0), Due.UNKNOWN);
        Due.due("write(0, 0, 1)", w.write(0, 0, 1), Due.UNKNOWN);
        Due.due("write(0, 0, -1)", w.write(0, 0, -1), Due.UNKNOWN);
        Due.due("told(7)", w.told(7), 2);
        Due.due("tear()", w.tear(), 2);
        Due.due("told(7)", w.told(7), 0);
    }

    private static void fullBook() {
        SeenWaters w = Due.lakeOf("lake 2 1;door 0 0 0;");
        for (int k = 1; k <= 40; k++) {
            Due.due("write " + k, w.write(0, 0, 0), k);
        }
        Due.due("write 41", w.write(0, 0, 0), Due.FULL);
        Due.due("write of nobody is UNKNOWN first", w.write(1, 0, 0), Due.UNKNOWN);
        Due.due("write of nowhere is UNKNOWN first", w.write(0, 2, 0), Due.UNKNOWN);
        Due.due("judge()", w.judge(), Due.NONE);
        Due.due("tear()", w.tear(), 40);
        Due.due("write(0, 0, 0)", w.write(0, 0, 0), 1);
    }

    private static void judging() {
        SeenWaters w = Due.lakeOf("lake 2 2;door 0 0 0;door 1 5 0;stand 1 0 1;mist 1 1 1;");
        Due.due("judge()", w.judge(), Due.NONE);
        w.write(1, 0, 1);
        w.write(0, 0, 0);
        w.write(0, 1, 1);
        w.write(1, 1, 0);
        Due.due("judge(): 1, 1 is hidden from 0", w.judge(), 2);
        w.plant(1, 0, 0);
        Due.due("judge()", w.judge(), Due.NONE);
        w.law(1);
        Due.due("judge() by LAW 1", w.judge(), 0);
        w.law(2);
        Due.due("judge() by LAW 2", w.judge(), 1);
        w.law(0);
        w.day(1);
        Due.due("judge() in mist", w.judge(), 0);
        w.day(1);
        Due.due("judge() behind mist", w.judge(), Due.NONE);
        w.begin();
        Due.due("judge() of the book that stays", w.judge(), 2);
    }

    private static void seeds() {
        SeenWaters w = new SeenWaters();
        Due.due("seed(2147483647)", w.seed(2147483647), 0);
        Due.due("seed(-1)", w.seed(-1), Due.OUTSIDE);
        Due.due("seed(least)", w.seed(Integer.MIN_VALUE), Due.OUTSIDE);
        Due.due("seed(0)", w.seed(0), 2147483647);
        SeenWaters one = Due.lakeOf("lake 1 1;storey 1 0;door 0 0 0;");
        one.seed(2147483647);
        one.drift(1);
        // (2^31 - 1) * 1103515245 + 12345 leaves 2^31 - 1103515245 + 12345.
        Due.due("seed(0)", one.seed(0), 1043980748);
    }

    private static void images() {
        SeenWaters w = Due.lakeOf("lake 2 2;storey 1 4;door 0 0 2;stand 1 1 5;");
        int[] nowhere = {-1, 2, Integer.MAX_VALUE};
        for (int i : nowhere) {
            Due.due("keep out", w.keep(i), Due.UNKNOWN);
            Due.due("goBack out", w.goBack(i), Due.UNKNOWN);
        }
        Due.due("goBack(0)", w.goBack(0), Due.NOT);
        Due.due("goBack(1)", w.goBack(1), Due.NOT);
        w.law(1);
        w.seed(11);
        w.day(2);
        w.build(0);
        w.plant(0, 1, 3);
        int purse = w.man(0, 4);
        Due.due("keep(1)", w.keep(1), 1);
        Due.due("goBack(0) still", w.goBack(0), Due.NOT);
        w.law(2);
        w.seed(22);
        w.day(5);
        w.build(0);
        w.plant(0, 1, 0);
        w.plant(1, 1, 0);
        w.write(0, 0, 0);
        Due.due("keep(0)", w.keep(0), 1);
        for (int again = 0; again < 2; again++) {
            Due.due("goBack(1)", w.goBack(1), 1);
            Due.due("told(4)", w.told(4), 1);
            Due.due("told(5)", w.told(5), 2);
            Due.due("man(0, 2)", w.man(0, 2), 3);
            Due.due("man(0, 4)", w.man(0, 4), purse);
            Due.due("cell(0, 1, 0)", w.cell(0, 1, 0), 3);
            Due.due("cell(1, 1, 0)", w.cell(1, 1, 0), 5);
            Due.due("seed(0)", w.seed(0), 11);
            Due.due("the BOOK is in no IMAGE", w.told(7), 1);
            w.plant(0, 1, 99);
            w.build(0);
            w.day(1);
        }
        Due.due("goBack(0)", w.goBack(0), 1);
        Due.due("told(4)", w.told(4), 2);
        Due.due("told(5)", w.told(5), 7);
        Due.due("man(0, 2)", w.man(0, 2), 4);
        Due.due("cell(1, 1, 0)", w.cell(1, 1, 0), 0);
        Due.due("seed(0)", w.seed(0), 22);
        w.begin();
        w.keep(0);
        w.day(1);
        w.goBack(0);
        Due.due("told(5) of an IMAGE kept again", w.told(5), 0);
        Due.tell(w, "lake 2 2;");
        w.lake();
        Due.due("goBack(1) of a lake that is gone", w.goBack(1), Due.NOT);
    }

    private static void imagesOfNothing() {
        SeenWaters w = new SeenWaters();
        w.seed(3);
        Due.due("keep(0)", w.keep(0), 1);
        w.seed(4);
        w.law(1);
        Due.due("goBack(0)", w.goBack(0), 1);
        Due.due("seed(0)", w.seed(0), 3);
        Due.due("told(4)", w.told(4), 0);
        Due.due("lake()", w.lake(), 0);
        Due.due("goBack(0)", w.goBack(0), Due.NOT);
    }
}
