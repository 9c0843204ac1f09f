/** The edges of "1 THE LAKE" and of promises 2 to 5, sentence by sentence. */
public final class TextEdgesTest {
    private static final String[] WORDS = {"lake", "door", "stand", "fish", "mist", "storey"};

    public static void main(String[] args) {
        feedTakesOneToEight();
        feedFillsFiveHundred();
        fiveHundredBytesAreRead();
        sidesAndCells();
        numbersOfDoors();
        numbersOfStands();
        numbersOfFish();
        numbersOfMists();
        numbersOfStoreys();
        lakeComesFirst();
        wordsLetterByLetter();
        asTheyCome();
        mostDoors();
        mostStandsAndFish();
        mostMists();
        onceOnly();
        eachCellOnce();
        mistEndsNotAheadOfItsBeginning();
        oneToThreeFigures();
        blanks();
        everyByte();
        textsThatEndTooSoon();
        firstByteThenLeastFault();
        latestFault();
        lakeStartsAnew();
        emptyTexts();
        Due.end("TextEdgesTest");
    }

    // ---- promise 2

    /** "Up to eight bytes (n 1 .. 8) of a long, the highest of these first, come behind THE TEXT: how many it has." */
    private static void feedTakesOneToEight() {
        String text = "lake 5 7;";
        for (int n = 1; n <= 8; n++) {
            SeenWaters w = new SeenWaters();
            int had = 0;
            for (int i = 0; i < text.length(); i += n) {
                String part = text.substring(i, Math.min(text.length(), i + n));
                int k = part.length();
                long above = k == 8 ? 0 : Due.packed("########") << 8 * k;
                had += k;
                Due.due("feed(" + k + ", '" + part + "')", w.feed(k, above | Due.packed(part)), had);
                Due.due("told(3)", w.told(3), had);
            }
            Due.due("lake() of a text fed by " + n, w.lake(), 35);
            Due.due("told(0)", w.told(0), 5);
        }
        SeenWaters high = new SeenWaters();
        Due.due("feed(1, 255) is a byte too", high.feed(1, 255), 1);
        Due.due("feed(1, 0) is a byte too", high.feed(1, 256), 2);
        Due.due("feed(8, least)", high.feed(8, Long.MIN_VALUE), 10);
    }

    /** "FULL (500)": n bytes that would be the 501st and on are not taken, those up to the 500th are. */
    private static void feedFillsFiveHundred() {
        for (int n = 1; n <= 8; n++) {
            SeenWaters w = new SeenWaters();
            Due.tell(w, "x".repeat(500 - n));
            Due.due("feed(" + n + ") up to 500", w.feed(n, 0), 500);
            Due.due("feed(1) behind 500", w.feed(1, 0), Due.FULL);
            Due.due("told(3) of a full text", w.told(3), 500);
            SeenWaters over = new SeenWaters();
            Due.tell(over, "x".repeat(501 - n));
            Due.due("feed(" + n + ") up to 501", over.feed(n, 0), Due.FULL);
            Due.due("told(3) after FULL", over.told(3), 501 - n);
            if (n > 1) {
                Due.due("feed(" + (n - 1) + ") up to 500", over.feed(n - 1, 0), 500);
            }
        }
        SeenWaters again = new SeenWaters();
        Due.tell(again, " ".repeat(500));
        Due.due("lake() of 500 blanks", again.lake(), 0);
        Due.due("feed(8) into the text that is empty then", again.feed(8, 0), 8);
    }

    /** The most that 500 bytes can tell: 30 things, 6 doors, 10 mists. */
    private static void fiveHundredBytesAreRead() {
        String stands = "lake12 5;" + cells("stand", 30) + doors(6) + "mist0 0 9;".repeat(9) + "mist0 1 8;";
        Due.due("bytes ahead of the last blank", stands.length(), 499);
        SeenWaters w = Due.lakeOf(stands + " ");
        Due.due("told(2)", w.told(2), 6);
        Due.due("told(6) of the tenth 'mist'", w.told(6), 8);
        Due.due("cell of the first 'stand'", w.cell(0, 0, 0), 7);
        Due.due("cell of the 30th 'stand'", w.cell(5, 4, 0), 7);
        Due.due("cell behind them", w.cell(6, 4, 0), 0);
        Due.due("man(5, 0)", w.man(5, 0), 5);
        Due.due("man(5, 1)", w.man(5, 1), 6);
        Due.due("man(5, 2)", w.man(5, 2), 7);
        String fish = "lake12 5;" + cells("fish", 30) + doors(6) + "mist0 0 9;".repeat(10) + "storey9 8;";
        SeenWaters f = Due.lakeOf(" ".repeat(500 - fish.length()) + fish);
        Due.due("cell of the 30th 'fish'", f.cell(5, 4, 1), 7);
        Due.due("told(9), told by the 500th byte", f.told(9), 8);
        Due.fault(stands + "x", 1, 499);
        Due.fault(" ".repeat(491) + "lake 1 1", 1, 499);
        Due.fault("lake 1 1" + " ".repeat(492), 1, 500);
        Due.sound("lake 1 1" + " ".repeat(491) + ";", 1);
    }

    private static String cells(String word, int count) {
        StringBuilder text = new StringBuilder();
        for (int k = 0; k < count; k++) {
            text.append(word).append(k % 6).append(' ').append(k / 6).append(" 7;");
        }
        return text.toString();
    }

    private static String doors(int count) {
        StringBuilder text = new StringBuilder();
        for (int k = 0; k < count; k++) {
            text.append("door").append(k).append(' ').append(k + 1).append(' ').append(k + 2).append(';');
        }
        return text.toString();
    }

    // ---- the bounds of each NUMBER: the least and the most are taken, what is beyond them is FAULT 2 at it

    private static void bounds(String head, String tail, int least, int most) {
        SeenWaters w = Due.lakeOf(head + least + tail);
        Due.due("fault() of " + least, w.fault(), Due.NONE);
        w = Due.lakeOf(head + most + tail);
        Due.due("fault() of " + most, w.fault(), Due.NONE);
        if (least > 0) {
            Due.fault(head + (least - 1) + tail, 2, head.length());
        }
        Due.fault(head + (most + 1) + tail, 2, head.length());
        Due.fault(head + 999 + (most == 999 ? "9" : "") + tail, 2, head.length());
    }

    private static SeenWaters lake(String rest) {
        return Due.lakeOf("lake 3 2;" + rest);
    }

    /** "W, H 1 .. 12, 60 CELLS at most"; "more than 60 CELLS (at the H)". */
    private static void sidesAndCells() {
        bounds("lake ", " 5;", 1, 12);
        bounds("lake 5 ", ";", 1, 12);
        for (int w = 1; w <= 12; w++) {
            String head = "lake " + w + " ";
            for (int h = 1; h <= 13; h++) {
                if (h > 12 || w * h > 60) {
                    Due.fault(head + h + ";", 2, head.length());
                } else {
                    Due.sound(head + h + ";", w * h);
                }
            }
        }
        SeenWaters wide = Due.lakeOf("lake 12 5;");
        Due.due("told(0)", wide.told(0), 12);
        Due.due("told(1)", wide.told(1), 5);
        Due.due("cell(11, 4, 1)", wide.cell(11, 4, 1), 1);
        Due.due("cell(12, 4, 1)", wide.cell(12, 4, 1), Due.UNKNOWN);
        Due.due("cell(11, 5, 1)", wide.cell(11, 5, 1), Due.UNKNOWN);
        SeenWaters deep = Due.lakeOf("lake 5 12;");
        Due.due("cell(4, 11, 1)", deep.cell(4, 11, 1), 1);
        Due.due("cell(5, 11, 1)", deep.cell(5, 11, 1), Due.UNKNOWN);
        Due.due("cell(4, 12, 1)", deep.cell(4, 12, 1), Due.UNKNOWN);
    }

    /** "at shore place X; ground G 0 .. 99; N STOREYS 0 .. 9". */
    private static void numbersOfDoors() {
        bounds("lake 3 2;door ", " 0 0;", 0, 2);
        bounds("lake 1 12;door ", " 0 0;", 0, 0);
        bounds("lake 12 1;door ", " 0 0;", 0, 11);
        bounds("lake 3 2;door 0 ", " 0;", 0, 99);
        bounds("lake 3 2;door 0 0 ", ";", 0, 9);
        SeenWaters w = lake("door 0 99 0;door 2 0 9;");
        int[][] want = {{0, 99, 0}, {2, 0, 9}};
        for (int f = 0; f < 2; f++) {
            for (int what = 0; what < 3; what++) {
                Due.due("man(" + f + ", " + what + ")", w.man(f, what), want[f][what]);
            }
        }
    }

    /** "something T high stands in a CELL, 1 .. 99"; "an X, a Y that there is not". */
    private static void numbersOfStands() {
        bounds("lake 3 2;stand ", " 0 1;", 0, 2);
        bounds("lake 3 2;stand 0 ", " 1;", 0, 1);
        bounds("lake 1 12;stand 0 ", " 1;", 0, 11);
        bounds("lake 12 1;stand ", " 0 1;", 0, 11);
        bounds("lake 3 2;stand 0 0 ", ";", 1, 99);
        SeenWaters w = lake("stand 0 0 1;stand 2 1 99;");
        Due.due("cell(0, 0, 0)", w.cell(0, 0, 0), 1);
        Due.due("cell(2, 1, 0)", w.cell(2, 1, 0), 99);
        Due.due("cell(1, 1, 0) untold", w.cell(1, 1, 0), 0);
    }

    /** "FISH V, 0 .. 99, in place of 1". */
    private static void numbersOfFish() {
        bounds("lake 3 2;fish ", " 0 1;", 0, 2);
        bounds("lake 3 2;fish 0 ", " 1;", 0, 1);
        bounds("lake 1 12;fish 0 ", " 1;", 0, 11);
        bounds("lake 12 1;fish ", " 0 1;", 0, 11);
        bounds("lake 3 2;fish 0 0 ", ";", 0, 99);
        SeenWaters w = lake("fish 0 0 0;fish 2 1 99;");
        Due.due("cell(0, 0, 1)", w.cell(0, 0, 1), 0);
        Due.due("cell(2, 1, 1)", w.cell(2, 1, 1), 99);
        Due.due("cell(1, 1, 1) untold", w.cell(1, 1, 1), 1);
    }

    /** "on DAYS A to B, 0 .. 999, B not below A, one sees R far at most, 0 .. 20". */
    private static void numbersOfMists() {
        bounds("lake 3 2;mist ", " 999 0;", 0, 999);
        bounds("lake 3 2;mist 0 ", " 0;", 0, 999);
        bounds("lake 3 2;mist 0 0 ", ";", 0, 20);
        Due.due("told(6) of R 0", lake("mist 0 0 0;").told(6), 0);
        Due.due("told(6) of R 20", lake("mist 0 0 20;").told(6), 20);
        Due.due("told(6) untold", lake("").told(6), Due.NONE);
    }

    /** "how high, 1 .. 20, what it costs, 0 .. 999; 3 100 untold". */
    private static void numbersOfStoreys() {
        bounds("lake 3 2;storey ", " 0;", 1, 20);
        bounds("lake 3 2;storey 1 ", ";", 0, 999);
        SeenWaters least = lake("storey 1 0;");
        Due.due("told(8)", least.told(8), 1);
        Due.due("told(9)", least.told(9), 0);
        SeenWaters most = lake("storey 20 999;");
        Due.due("told(8)", most.told(8), 20);
        Due.due("told(9)", most.told(9), 999);
        Due.due("told(8) untold", lake("").told(8), 3);
        Due.due("told(9) untold", lake("").told(9), 100);
    }

    // ---- which word may come when, and how often

    /** "first 'lake'"; "another one first than 'lake': at its first letter". */
    private static void lakeComesFirst() {
        for (int k = 1; k < WORDS.length; k++) {
            Due.fault(WORDS[k] + " 0 0 0;", 1, 0);
            Due.fault("   " + WORDS[k], 1, 3);
            Due.fault(WORDS[k] + " 0 0 0;lake 3 2;", 1, 0);
        }
        Due.fault("lakes 3 2;", 1, 0);
        Due.fault("lak", 1, 0);
        Due.fault("alake 3 2;", 1, 0);
    }

    /** "a word that cannot": one letter other, one more, one less; at its first letter. */
    private static void wordsLetterByLetter() {
        for (String word : WORDS) {
            String head = word.equals("lake") ? "" : "lake 3 2;";
            for (int i = 0; i < word.length(); i++) {
                String before = word.substring(0, i);
                String behind = word.substring(i + 1);
                Due.fault(head + before + "x" + behind + " 1 1 1;", 1, head.length());
                Due.fault(head + before + behind + " 1 1 1;", 1, head.length());
                Due.fault(head + before + "z" + word.substring(i) + " 1 1 1;", 1, head.length());
            }
            Due.fault(head + word + "s 1 1 1;", 1, head.length());
        }
    }

    private static void asTheyCome() {
        String[] parts = {"storey 2 7;", "mist 0 0 5;", "fish 1 1 8;", "stand 2 0 6;", "door 1 4 3;"};
        for (int turn = 0; turn < parts.length; turn++) {
            StringBuilder text = new StringBuilder();
            for (int k = 0; k < parts.length; k++) {
                text.append(parts[(k * 2 + turn) % parts.length]);
            }
            SeenWaters w = lake(text.toString());
            Due.due("told(9)", w.told(9), 7);
            Due.due("told(6)", w.told(6), 5);
            Due.due("cell(1, 1, 1)", w.cell(1, 1, 1), 8);
            Due.due("cell(2, 0, 0)", w.cell(2, 0, 0), 6);
            Due.due("man(0, 3)", w.man(0, 3), 4 + 3 * 2 + 1);
        }
    }

    /** "6 FISHERMEN at most"; "a seventh 'door' (at its first letter)": whatever comes behind it. */
    private static void mostDoors() {
        String six = "lake 6 2;" + doors(6);
        Due.sound(six, 12);
        Due.due("told(2)", Due.lakeOf(six).told(2), 6);
        Due.fault(six + "door 0 0 0;", 3, six.length());
        Due.fault(six + "  door", 3, six.length() + 2);
        Due.fault(six + "door 9 0 0;", 3, six.length());
        Due.fault(six + "doors 0 0 0;", 1, six.length());
        Due.sound(six + "stand 0 0 1;fish 0 0 1;mist 0 0 0;storey 1 1;", 12);
    }

    /** "30 at most", of each of the two; "a 31st 'stand', 'fish'". */
    private static void mostStandsAndFish() {
        String[][] pairs = {{"stand", "fish"}, {"fish", "stand"}};
        for (String[] pair : pairs) {
            String most = "lake 6 6;" + cells(pair[0], 29);
            Due.sound(most + pair[0] + "0 5 1;", 36);
            String thirty = "lake 6 6;" + cells(pair[0], 30);
            Due.sound(thirty, 36);
            Due.sound(thirty + pair[1] + "0 5 1;" + pair[1] + "0 0 1;", 36);
            Due.fault(thirty + pair[0] + "0 5 1;", 3, thirty.length());
            Due.fault(thirty + pair[0], 3, thirty.length());
            // Its CELL is told again as well, but the word stands ahead of its Y.
            Due.fault(thirty + pair[0] + "0 0 1;", 3, thirty.length());
        }
    }

    /** "10 at most"; "an 11th 'mist'". */
    private static void mostMists() {
        String ten = "lake 3 2;" + "mist 0 0 9;".repeat(9) + "mist 0 0 4;";
        Due.due("told(6) of the tenth", Due.lakeOf(ten).told(6), 4);
        Due.fault(ten + "mist 0 0 1;", 3, ten.length());
        Due.fault(ten + "mist 5 4 1;", 3, ten.length());
        Due.fault(ten + "mist", 3, ten.length());
        Due.sound(ten + "door 0 0 0;", 6);
    }

    /** "'lake', 'storey' again". */
    private static void onceOnly() {
        Due.fault("lake 3 2;lake 3 2;", 3, 9);
        Due.fault("lake 3 2;lake", 3, 9);
        Due.fault("lake 3 2; lake 99 99;", 3, 10);
        Due.sound("lake 3 2;storey 3 100;", 6);
        Due.fault("lake 3 2;storey 3 100;storey 3 100;", 3, 22);
        Due.fault("lake 3 2;storey 3 100;door 0 0 0;storey", 3, 33);
    }

    /** "each CELL once"; "a CELL again (at its Y)". */
    private static void eachCellOnce() {
        for (String word : new String[] {"stand", "fish"}) {
            String head = "lake 3 2;" + word + " 1 0 1;" + word + " 0 1 1;" + word;
            Due.sound(head + " 1 1 1;" + word + " 0 0 1;" + word + " 2 0 1;" + word + " 2 1 1;", 6);
            Due.fault(head + " 1 0 1;", 4, head.length() + 3);
            Due.fault(head + "   0   1 1;", 4, head.length() + 7);
            Due.fault(head + " 1 0", 4, head.length() + 3);
            Due.fault(head + " 1 2 1;", 2, head.length() + 3);
            Due.fault(head + " 3 0 1;", 2, head.length() + 1);
        }
        Due.fault("lake 3 2;fish 0 0 1;fish 0 0 1;", 4, 27);
        Due.fault("lake 3 2;fish 0 0 0;fish 0 0 5;", 4, 27);
        Due.sound("lake 3 2;stand 1 1 1;fish 1 1 1;", 6);
        // A CELL is numbered by the lake's own width: 0, 1 and 2, 0 are two.
        Due.sound("lake 2 3;stand 0 1 1;stand 1 0 1;stand 0 2 1;stand 1 1 1;", 6);
    }

    /** "B not below A"; "a B below its A (at it)". */
    private static void mistEndsNotAheadOfItsBeginning() {
        for (int a : new int[] {1, 5, 10, 100, 999}) {
            String head = "lake 3 2;mist " + a + " ";
            Due.sound(head + a + " 3;", 6);
            Due.fault(head + (a - 1) + " 3;", 4, head.length());
            Due.fault(head + "0 3;", 4, head.length());
        }
        Due.sound("lake 3 2;mist 0 0 3;", 6);
        Due.sound("lake 3 2;mist 998 999 3;", 6);
        Due.fault("lake 3 2;mist 999 1000 3;", 2, 18);
        Due.fault("lake 3 2;mist 5 0004 3;", 2, 16);
    }

    /** "NUMBERS have one to three figures"; "a NUMBER of four figures or more". */
    private static void oneToThreeFigures() {
        Due.sound("lake 3 2;", 6);
        Due.sound("lake 03 02;", 6);
        Due.sound("lake 003 002;", 6);
        Due.fault("lake 0003 2;", 2, 5);
        Due.fault("lake 3 0002;", 2, 7);
        Due.fault("lake 3 2;storey 3 0100;", 2, 18);
        Due.fault("lake 3 2;mist 0 0 0000;", 2, 18);
        Due.fault("lake 3 2;mist 0 0000 0;", 2, 16);
        Due.fault("lake 3 2;mist 0000 0 0;", 2, 14);
        Due.fault("lake 4294967299 2;", 2, 5);
        Due.fault("lake 18446744073709551619 2;", 2, 5);
        Due.fault("lake " + "0".repeat(494) + "3", 2, 5);
        Due.sound("lake 3 2;mist 000 999 020;door 002 099 009;storey 020 999;", 6);
    }

    // ---- bytes

    /** "blanks (32) may stand anywhere but within words and NUMBERS; two words, two NUMBERS side by side need one". */
    private static void blanks() {
        Due.sound("lake3 2;door0 1 2;stand0 0 3;fish0 0 4;mist0 0 5;storey6 7;", 6);
        Due.sound("  lake  3  2  ;  door  0  1  2  ;  stand  0  0  3  ;  ", 6);
        Due.sound("lake 3 2 ;door 0 1 2 ;", 6);
        Due.fault("la ke 3 2;", 1, 0);
        Due.fault("lake 3 2;do or 0 0 0;", 1, 9);
        Due.fault("lakelake 3 2;", 1, 0);
        Due.fault("lake 3 2;doorstand 0 0 0;", 1, 9);
        Due.fault("lake 32;", 2, 5);
        Due.fault("lake 12;", 1, 7);
        Due.fault("lake 1 2 1;", 1, 9);
        Due.fault("lake 3 2;storey 1 0 0;", 1, 20);
        Due.fault("lake 3 2;door 00 0;", 1, 18);
        Due.fault("lake 3 2door 0 0 0;", 1, 8);
        Due.fault("lake 3 2 door 0 0 0;", 1, 9);
        Due.fault("lake lake 3 2;", 1, 5);
        Due.fault("lake 3 2;;", 1, 9);
        Due.fault("lake; 3 2;", 1, 4);
    }

    /** "it cannot stand there": of all bytes, only 32 is a blank, only a .. z are letters, only 0 .. 9 figures. */
    private static void everyByte() {
        for (int b = 0; b < 256; b++) {
            char c = (char) b;
            boolean letter = c >= 'a' && c <= 'z';
            boolean figure = c >= '0' && c <= '9';
            if (c == ' ') {
                Due.sound("" + c, 0);
                Due.sound("lake 3 2;" + c, 6);
                continue;
            }
            Due.fault("" + c, 1, 0);
            Due.fault("  " + c + "lake 3 2;", 1, 2);
            Due.fault("lake 3 2;" + c, 1, 9);
            Due.fault("lake" + c + " 3 2;", figure ? b == '0' ? 2 : 1 : 1, letter ? 0 : !figure ? 4 : b == '0' ? 4 : 8);
            if (!figure && c != ';') {
                Due.fault("lake 3 2" + c + ";", 1, 8);
            }
            if (!figure) {
                Due.fault("lake 3" + c + "2;", 1, 6);
            }
        }
    }

    /** "the end at the text's length". */
    private static void textsThatEndTooSoon() {
        String text = "lake 3 2;mist 1 3 4;";
        int[] places = {Due.NONE, 0, 0, 0, 4, 5, 6, 7, 8, Due.NONE, 9, 9, 9, 13, 14, 15, 16, 17, 18, 19, Due.NONE};
        for (int n = 0; n <= text.length(); n++) {
            String part = text.substring(0, n);
            if (places[n] == Due.NONE) {
                Due.sound(part, n == 0 ? 0 : 6);
            } else {
                Due.fault(part, 1, places[n]);
            }
        }
    }

    /** "FAULTS, at the first byte that has one, of these the least". */
    private static void firstByteThenLeastFault() {
        Due.fault("lake 13 13;oops", 2, 5);
        Due.fault("lake 3 13;oops", 2, 7);
        Due.fault("lake 3 2;mist 5 4 99;", 4, 16);
        Due.fault("lake 3 2;stand 0 0 1;stand 0 0 100;", 4, 29);
        Due.fault("lake 3 2;stand 3 9 100;", 2, 15);
        Due.fault("lake 3 2;stand 0 0 100;stand 0 0 1;", 2, 19);
        Due.fault("lake 3 2;stand 0 0 1;stand 0 0000 1;", 2, 29);
        // What cannot stand there is FAULT 1, whatever else it would be.
        Due.fault("lake 3 2 1000;", 1, 9);
        Due.fault("lake 3 lake;", 1, 7);
        Due.fault("lake 3 2;storey 1 1;door storey 1 1;", 1, 25);
        Due.fault("lake 3 2;9999 0;", 1, 9);
        Due.fault("9999", 1, 0);
    }

    // ---- promises 3 and 4

    /** "The byte of the FAULT of the latest lake(); NONE." */
    private static void latestFault() {
        SeenWaters w = new SeenWaters();
        Due.due("fault() ahead of all", w.fault(), Due.NONE);
        Due.tell(w, "lake 3 oops");
        Due.due("fault() ahead of lake()", w.fault(), Due.NONE);
        Due.due("lake()", w.lake(), -11);
        Due.due("fault()", w.fault(), 7);
        Due.due("fault() again", w.fault(), 7);
        Due.tell(w, "lake 0 2;");
        Due.due("fault() while a text comes", w.fault(), 7);
        Due.due("lake()", w.lake(), -12);
        Due.due("fault()", w.fault(), 5);
        Due.tell(w, "lake 3 2;lake");
        Due.due("lake()", w.lake(), -13);
        Due.due("fault()", w.fault(), 9);
        Due.tell(w, "lake 3 2;mist 1 0 0;");
        Due.due("lake()", w.lake(), -14);
        Due.due("fault()", w.fault(), 16);
        Due.due("lake() of the empty text behind a FAULT", w.lake(), 0);
        Due.due("fault()", w.fault(), Due.NONE);
        Due.tell(w, "x");
        w.lake();
        Due.tell(w, "lake 3 2;");
        Due.due("lake()", w.lake(), 6);
        Due.due("fault()", w.fault(), Due.NONE);
    }

    private static SeenWaters used() {
        SeenWaters w = lake("door 0 5 2;door 2 5 2;stand 1 1 7;fish 1 1 9;mist 0 99 2;storey 2 3;");
        w.law(2);
        w.seed(2147483647);
        w.day(4);
        w.build(0);
        w.plant(0, 0, 9);
        w.write(0, 0, 0);
        w.keep(0);
        w.keep(1);
        return w;
    }

    /** "DAY 0, PURSES 0; no BOOK; IMAGES are gone; LAW, THE SEED stay": also of the same text told again. */
    private static void lakeStartsAnew() {
        SeenWaters w = used();
        Due.tell(w, "lake 3 2;door 0 5 2;door 2 5 2;stand 1 1 7;fish 1 1 9;mist 0 99 2;storey 2 3;");
        Due.due("lake()", w.lake(), 6);
        int[] want = {3, 2, 2, 0, 2, 0, 2, 0, 2, 3};
        for (int what = 0; what < want.length; what++) {
            Due.due("told(" + what + ") of a lake told again", w.told(what), want[what]);
        }
        for (int f = 0; f < 2; f++) {
            Due.due("STOREYS", w.man(f, 2), 2);
            Due.due("PURSE", w.man(f, 4), 0);
            Due.due("IMAGE", w.goBack(f), Due.NOT);
        }
        Due.due("cell(0, 0, 0)", w.cell(0, 0, 0), 0);
        Due.due("cell(1, 1, 0)", w.cell(1, 1, 0), 7);
        Due.due("tear()", w.tear(), 0);
        Due.due("THE SEED", w.seed(0), 2147483647);
    }

    /** "An empty text: no CELLS." Blanks alone are one too. */
    private static void emptyTexts() {
        for (String text : new String[] {"", " ", " ".repeat(8), " ".repeat(500)}) {
            SeenWaters w = used();
            Due.tell(w, text);
            Due.due("lake() of '" + text + "'", w.lake(), 0);
            Due.due("fault()", w.fault(), Due.NONE);
            int[] want = {0, 0, 0, 0, 2, 0, Due.NONE, 0, 3, 100, 0};
            for (int what = 0; what < want.length; what++) {
                Due.due("told(" + what + ") of no CELLS", w.told(what), want[what]);
            }
            Due.due("cell(0, 0, 0)", w.cell(0, 0, 0), Due.UNKNOWN);
            Due.due("man(0, 4)", w.man(0, 4), Due.UNKNOWN);
            Due.due("goBack(0)", w.goBack(0), Due.NOT);
            Due.due("goBack(1)", w.goBack(1), Due.NOT);
            Due.due("begin()", w.begin(), 0);
            Due.due("THE SEED", w.seed(0), 2147483647);
            Due.tell(w, "lake 2 2;");
            Due.due("lake() behind no CELLS", w.lake(), 4);
            Due.due("cell(0, 0, 0)", w.cell(0, 0, 0), 0);
        }
    }
}
