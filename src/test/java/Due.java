import java.util.List;

/** What the tests share: answers that are due, and lakes told by texts. */
final class Due {
    static final int NONE = -1;
    static final int UNKNOWN = -1000000001;
    static final int OUTSIDE = -1000000002;
    static final int NOT = -1000000003;
    static final int FULL = -1000000004;

    static final int LEAST = Integer.MIN_VALUE;
    static final int MOST = Integer.MAX_VALUE;

    private static int wrong = 0;
    private static int asked = 0;

    private Due() { }

    static void due(String call, long got, long want) {
        asked++;
        if (got != want) {
            wrong++;
            System.out.println(call + " answered " + got + ", due is " + want);
        }
    }

    /** Two portraits, row by row. */
    static void alike(String after, List<String> got, List<String> want) {
        asked++;
        if (got.equals(want)) {
            return;
        }
        wrong++;
        System.out.println("not all is as it was after " + after);
        for (int i = 0; i < Math.max(got.size(), want.size()); i++) {
            String is = i < got.size() ? got.get(i) : "nothing";
            String was = i < want.size() ? want.get(i) : "nothing";
            if (!is.equals(was)) {
                System.out.println("  " + is + ", due is " + was);
            }
        }
    }

    static void end(String name) {
        System.out.println(name + ": " + asked + " answers, " + wrong + " wrong");
        if (wrong != 0) {
            System.exit(1);
        }
    }

    /** Feeds a text whole, eight bytes at a time. */
    static void tell(SeenWaters waters, String text) {
        for (int i = 0; i < text.length(); i += 8) {
            int n = Math.min(8, text.length() - i);
            waters.feed(n, packed(text.substring(i, i + n)));
        }
    }

    static long packed(String part) {
        long bytes = 0;
        for (int i = 0; i < part.length(); i++) {
            bytes = bytes << 8 | part.charAt(i) & 255;
        }
        return bytes;
    }

    /** A new object with a lake that must have no FAULT. */
    static SeenWaters lakeOf(String text) {
        SeenWaters waters = new SeenWaters();
        tell(waters, text);
        int cells = waters.lake();
        if (cells < 0) {
            wrong++;
            System.out.println("lake() refused " + text + " with " + cells + " at " + waters.fault());
        }
        return waters;
    }

    static void fault(String text, int kind, int place) {
        SeenWaters waters = new SeenWaters();
        tell(waters, text);
        due("lake() of '" + text + "'", waters.lake(), -10 - kind);
        due("fault() of '" + text + "'", waters.fault(), place);
    }

    static void sound(String text, int cells) {
        SeenWaters waters = new SeenWaters();
        tell(waters, text);
        due("lake() of '" + text + "'", waters.lake(), cells);
        due("fault() of '" + text + "'", waters.fault(), NONE);
    }

    static String times(String part, int n) {
        return part.repeat(n);
    }
}
