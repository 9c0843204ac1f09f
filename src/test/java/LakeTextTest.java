/** Promises 1 to 5: a new object, feed, lake, fault, told. */
public final class LakeTextTest {
    public static void main(String[] args) {
        newObject();
        feeding();
        soundTexts();
        blanksAlone();
        misplaced();
        outOfBounds();
        tooMany();
        again();
        leastFaultOfAByte();
        faultLeavesAllAsItWas();
        lakeMakesAnew();
        tellings();
        Due.end("LakeTextTest");
    }

    private static void newObject() {
        SeenWaters w = new SeenWaters();
        int[] want = {0, 0, 0, 0, 0, 0, Due.NONE, 0, 3, 100, 0};
        for (int what = 0; what < want.length; what++) {
            Due.due("new told(" + what + ")", w.told(what), want[what]);
        }
        Due.due("new fault()", w.fault(), Due.NONE);
        Due.due("new cell(0, 0, 0)", w.cell(0, 0, 0), Due.UNKNOWN);
        Due.due("new man(0, 0)", w.man(0, 0), Due.UNKNOWN);
        Due.due("new seed(5)", w.seed(5), 0);
        Due.due("new goBack(0)", w.goBack(0), Due.NOT);
        Due.due("new lake()", w.lake(), 0);
        Due.due("NONE", SeenWaters.NONE, Due.NONE);
        Due.due("UNKNOWN", SeenWaters.UNKNOWN, Due.UNKNOWN);
        Due.due("OUTSIDE", SeenWaters.OUTSIDE, Due.OUTSIDE);
        Due.due("NOT", SeenWaters.NOT, Due.NOT);
        Due.due("FULL", SeenWaters.FULL, Due.FULL);
    }

    private static void feeding() {
        SeenWaters w = new SeenWaters();
        Due.due("feed(0, 0)", w.feed(0, 0), Due.OUTSIDE);
        Due.due("feed(9, 0)", w.feed(9, 0), Due.OUTSIDE);
        Due.due("feed(-1, 0)", w.feed(-1, 0), Due.OUTSIDE);
        Due.due("told(3)", w.told(3), 0);
        Due.due("feed of 'lake'", w.feed(4, Due.packed("XXXXlake")), 4);
        Due.due("feed of ' 2 3;'", w.feed(5, Due.packed(" 2 3;")), 9);
        Due.due("told(3)", w.told(3), 9);
        Due.due("lake() of the lowest bytes, highest first", w.lake(), 6);
        Due.due("told(3)", w.told(3), 0);
        for (int i = 0; i < 62; i++) {
            w.feed(8, -1L);
        }
        Due.due("told(3)", w.told(3), 496);
        Due.due("feed over the end", w.feed(8, 0), Due.FULL);
        Due.due("feed over the end by one", w.feed(5, 0), Due.FULL);
        Due.due("feed(9, 0) is OUTSIDE first", w.feed(9, 0), Due.OUTSIDE);
        Due.due("told(3)", w.told(3), 496);
        Due.due("feed up to 500", w.feed(4, 0), 500);
        Due.due("feed behind 500", w.feed(1, 0), Due.FULL);
        Due.due("lake() of bytes 255", w.lake(), -11);
        Due.due("fault()", w.fault(), 0);
        Due.due("told(3) after a FAULT", w.told(3), 0);
    }

    private static void soundTexts() {
        Due.sound("", 0);
        Due.sound(" ", 0);
        Due.sound("   ", 0);
        Due.sound(" ".repeat(500), 0);
        Due.sound("lake 1 1;", 1);
        Due.sound("lake 12 5;", 60);
        Due.sound("lake 5 12;", 60);
        Due.sound("lake 7 8;", 56);
        Due.sound("lake2 3;", 6);
        Due.sound("  lake  02   003 ;  ", 6);
        Due.sound("lake 2 2;door1 99 9;stand1 1 99;fish 0 0 0;mist 0 999 20;mist 999 999 0;storey 20 999;", 4);
        Due.sound("lake 2 2;storey 1 0;door 0 0 0;stand 0 0 1;fish 0 0 99;", 4);
        Due.sound("lake 6 5;" + allCells("stand", 6, 5), 30);
        Due.sound("lake 6 5;" + allCells("fish", 6, 5), 30);
        Due.sound("lake 2 2;" + Due.times("door 0 0 0;", 6), 4);
        Due.sound("lake 2 2;" + Due.times("mist 0 0 0;", 10), 4);
        Due.sound("lake 1 1;" + " ".repeat(491), 1);
    }

    /** Issue 5: blanks tell nothing, so that they are an empty text: it becomes THE LAKE. */
    private static void blanksAlone() {
        SeenWaters w = Due.lakeOf("lake 2 2;door 0 0 0;storey 5 6;");
        w.keep(0);
        w.write(0, 0, 0);
        w.day(2);
        Due.tell(w, "oops");
        w.lake();
        Due.tell(w, "   ");
        Due.due("lake() of blanks", w.lake(), 0);
        Due.due("fault() of blanks", w.fault(), Due.NONE);
        int[] want = {0, 0, 0, 0, 0, 0, Due.NONE, 0, 3, 100, 0};
        for (int what = 0; what < want.length; what++) {
            Due.due("told(" + what + ") after blanks", w.told(what), want[what]);
        }
        Due.due("goBack(0) after blanks", w.goBack(0), Due.NOT);
        Due.due("day(1) after blanks", w.day(1), Due.NOT);
    }

    private static String allCells(String word, int width, int height) {
        StringBuilder text = new StringBuilder();
        for (int y = 0; y < height; y++) {
            for (int x = 0; x < width; x++) {
                text.append(word).append(x).append(' ').append(y).append(" 7;");
            }
        }
        return text.toString();
    }

    private static void misplaced() {
        Due.fault("door 0 0 0;", 1, 0);
        Due.fault("  lakes 2 2;", 1, 2);
        Due.fault("lak 2 2;", 1, 0);
        Due.fault("Lake 2 2;", 1, 0);
        Due.fault("la ke 2 2;", 1, 0);
        Due.fault("laKe 2 2;", 1, 0);
        Due.fault("lakeX2 2;", 1, 4);
        Due.fault("5", 1, 0);
        Due.fault("  ;", 1, 2);
        Due.fault(" \t", 1, 1);
        Due.fault(" \0", 1, 1);
        Due.fault(";", 1, 0);
        Due.fault("lake", 1, 4);
        Due.fault("lake ", 1, 5);
        Due.fault("lake 2", 1, 6);
        Due.fault("lake 2 2", 1, 8);
        Due.fault("lake 2 2  ", 1, 10);
        Due.fault("lake 2;", 1, 6);
        Due.fault("lake 2 2 2;", 1, 9);
        Due.fault("lake 2 2x;", 1, 8);
        Due.fault("lake 2 -2;", 1, 7);
        Due.fault("lake 2 2;;", 1, 9);
        Due.fault("lake 2 2;\n", 1, 9);
        Due.fault("lake 2 2;pond 1 1;", 1, 9);
        Due.fault("lake 2 2;doors 0 0 0;", 1, 9);
        Due.fault("lake 2 2;door 0 0;", 1, 17);
        Due.fault("lake 2 2;door door 0 0 0;", 1, 14);
        Due.fault("lake 2 2;7 door;", 1, 9);
        Due.fault("lake 2 2;storey 3 3 3;", 1, 20);
        Due.fault("lake 2 2;d", 1, 9);
        Due.fault("lake 2 2;" + (char) 233, 1, 9);
    }

    private static void outOfBounds() {
        Due.fault("lake 0 2;", 2, 5);
        Due.fault("lake 13 2;", 2, 5);
        Due.fault("lake 2 0;", 2, 7);
        Due.fault("lake 2 13;", 2, 7);
        Due.fault("lake 6 11;", 2, 7);
        Due.fault("lake 12 12;", 2, 8);
        Due.fault("lake 0002 2;", 2, 5);
        Due.fault("lake 99999999999999999999 2;", 2, 5);
        Due.fault("lake 23;", 2, 5);
        String start = "lake 2 3;";
        Due.fault(start + "door 2 0 0;", 2, 14);
        Due.fault(start + "door 0 100 0;", 2, 16);
        Due.fault(start + "door 0 0 10;", 2, 18);
        Due.fault(start + "door 0 0 0001;", 2, 18);
        Due.fault(start + "stand 2 0 1;", 2, 15);
        Due.fault(start + "stand 0 3 1;", 2, 17);
        Due.fault(start + "stand 0 0 0;", 2, 19);
        Due.fault(start + "stand 0 0 100;", 2, 19);
        Due.fault(start + "fish 2 0 1;", 2, 14);
        Due.fault(start + "fish 0 3 1;", 2, 16);
        Due.fault(start + "fish 0 0 100;", 2, 18);
        Due.fault(start + "mist 1000 1000 1;", 2, 14);
        Due.fault(start + "mist 0 1000 1;", 2, 16);
        Due.fault(start + "mist 0 0 21;", 2, 18);
        Due.fault(start + "storey 0 1;", 2, 16);
        Due.fault(start + "storey 21 1;", 2, 16);
        Due.fault(start + "storey 1 1000;", 2, 18);
    }

    private static void tooMany() {
        Due.fault("lake 2 2;lake 2 2;", 3, 9);
        Due.fault("lake 2 2; storey 3 3;storey 3 3;", 3, 21);
        Due.fault("lake 2 2;" + Due.times("door 0 0 0;", 7), 3, 9 + 6 * 11);
        Due.fault("lake 2 2;" + Due.times("mist 0 0 0;", 11), 3, 9 + 10 * 11);
        String thirty = "lake 6 6;" + allCells("stand", 6, 5);
        Due.fault(thirty + "stand 0 5 1;", 3, thirty.length());
        Due.fault(thirty + "stand", 3, thirty.length());
        String thirtyFish = "lake 6 6;" + allCells("fish", 6, 5);
        Due.fault(thirtyFish + "fish 0 5 1;", 3, thirtyFish.length());
    }

    private static void again() {
        Due.fault("lake 2 2;stand 1 0 1;stand 1 0 2;", 4, 29);
        Due.fault("lake 2 2;fish 1 1 1;fish 1 1 1;", 4, 27);
        Due.fault("lake 2 2;fish 1 1 0;fish 1 1 0;", 4, 27);
        Due.fault("lake 2 2;mist 5 4 1;", 4, 16);
        Due.sound("lake 2 2;stand 1 0 1;fish 1 0 1;stand 0 1 1;fish 0 1 1;", 4);
        Due.sound("lake 2 2;mist 5 5 1;", 4);
    }

    private static void leastFaultOfAByte() {
        Due.fault("lake 2 2;mist 5 0004 1;", 2, 16);
        Due.fault("lake 2 2;stand 0 0 1;stand 0 0000 1;", 2, 29);
        Due.fault("lake 2 2 9999;", 1, 9);
        Due.fault("lake 2 2;door lake;", 1, 14);
        Due.fault("lake 2 2;stand 0 0 1;stand 0 0 0;", 4, 29);
        Due.fault("lake 2 2;stand 0 0 0;stand 0 0 0;", 2, 19);
    }

    private static void faultLeavesAllAsItWas() {
        SeenWaters w = Due.lakeOf("lake 2 2;door 1 4 0;mist 1 1 1;storey 5 6;stand 0 1 9;");
        w.day(1);
        w.law(2);
        w.seed(77);
        w.keep(1);
        w.write(0, 1, 1);
        Due.tell(w, "lake 3 3;door 0 0 0;oops;");
        Due.due("lake()", w.lake(), -11);
        Due.due("fault()", w.fault(), 20);
        int[] want = {2, 2, 1, 0, 2, 1, 1, 1, 5, 6, 2};
        for (int what = 0; what < want.length; what++) {
            Due.due("told(" + what + ") after a FAULT", w.told(what), want[what]);
        }
        Due.due("cell(0, 1, 0)", w.cell(0, 1, 0), 9);
        Due.due("man(0, 4)", w.man(0, 4), 4);
        Due.due("goBack(1)", w.goBack(1), 1);
        Due.due("seed(1)", w.seed(1), 77);
        Due.tell(w, "lake 1 1;");
        Due.due("lake()", w.lake(), 1);
        Due.due("fault() after a sound text", w.fault(), Due.NONE);
    }

    private static void lakeMakesAnew() {
        SeenWaters w = Due.lakeOf("lake 2 2;" + Due.times("door 1 4 2;", 6) + "storey 5 6;stand 0 1 9;fish 0 0 50;mist 0 9 1;");
        w.day(3);
        w.law(1);
        w.seed(77);
        w.keep(0);
        w.keep(1);
        w.write(0, 1, 1);
        w.plant(1, 1, 8);
        Due.tell(w, "lake 3 1;door 2 1 0;");
        Due.due("lake()", w.lake(), 3);
        int[] want = {3, 1, 1, 0, 1, 0, Due.NONE, 0, 3, 100, 0};
        for (int what = 0; what < want.length; what++) {
            Due.due("told(" + what + ") of a second lake", w.told(what), want[what]);
        }
        Due.due("man(0, 4)", w.man(0, 4), 0);
        Due.due("man(0, 2)", w.man(0, 2), 0);
        Due.due("cell(0, 0, 1)", w.cell(0, 0, 1), 1);
        Due.due("cell(0, 0, 0)", w.cell(0, 0, 0), 0);
        Due.due("cell(0, 0, 2)", w.cell(0, 0, 2), 1);
        Due.due("goBack(0)", w.goBack(0), Due.NOT);
        Due.due("goBack(1)", w.goBack(1), Due.NOT);
        Due.due("seed(0)", w.seed(0), 77);
        Due.tell(w, "lake 2 2;fish 0 0 6;stand 0 1 7;");
        Due.due("lake() with CELLS that an earlier text told", w.lake(), 4);
        Due.due("cell(0, 0, 1)", w.cell(0, 0, 1), 6);
        Due.due("cell(0, 1, 0)", w.cell(0, 1, 0), 7);
        Due.tell(w, "lake 2 2;");
        w.lake();
        Due.due("cell(0, 1, 0) of a lake without it", w.cell(0, 1, 0), 0);
        w.day(2);
        Due.due("lake() of an empty text", w.lake(), 0);
        Due.due("told(0)", w.told(0), 0);
        Due.due("told(1)", w.told(1), 0);
        Due.due("told(2)", w.told(2), 0);
        Due.due("told(5)", w.told(5), 0);
        Due.due("told(10)", w.told(10), 0);
        Due.due("man(0, 0)", w.man(0, 0), Due.UNKNOWN);
    }

    private static void tellings() {
        SeenWaters w = Due.lakeOf("lake 4 3;door 0 0 0;door 3 0 0;storey 7 8;mist 2 5 3;mist 4 6 2;mist 5 5 20;stand 1 0 9;");
        int[] want = {4, 3, 2, 0, 0, 0, Due.NONE, 0, 7, 8};
        for (int what = 0; what < want.length; what++) {
            Due.due("told(" + what + ")", w.told(what), want[what]);
        }
        Due.due("told(-1)", w.told(-1), Due.OUTSIDE);
        Due.due("told(11)", w.told(11), Due.OUTSIDE);
        int[] far = {Due.NONE, Due.NONE, 3, 3, 2, 2, 2, Due.NONE};
        for (int day = 0; day < far.length; day++) {
            Due.due("told(6) on day " + day, w.told(6), far[day]);
            Due.due("told(5)", w.told(5), day);
            w.day(1);
        }
        Due.tell(w, "lake");
        Due.due("told(3)", w.told(3), 4);
        w.write(1, 3, 0);
        Due.due("told(7)", w.told(7), 1);
        w.law(2);
        Due.due("told(4)", w.told(4), 2);
    }
}
