import java.util.ArrayList;
import java.util.List;

/**
 * All that calls tell of an object, row by row. Taking it uses the object up: IMAGES and THE TEXT show
 * themselves only when they are gone back to and read.
 */
final class Portrait {
    /** Ends a text of "lake 3 ", so that the bytes of THE TEXT are seen, not only how many they are. */
    private static final String TEXT_END = "1;";

    private final SeenWaters w;
    private final List<String> rows = new ArrayList<>();
    private final int width;
    private final int height;
    private final int men;

    private Portrait(SeenWaters w) {
        this.w = w;
        width = w.told(0);
        height = w.told(1);
        men = w.told(2);
    }

    static List<String> of(SeenWaters w) {
        Portrait portrait = new Portrait(w);
        portrait.put("fault()", w.fault());
        portrait.putAllTold();
        portrait.putState("now");
        portrait.put("judge()", w.judge());
        for (int i = 0; i < 2; i++) {
            portrait.put("goBack(" + i + ")", w.goBack(i));
            portrait.putState("IMAGE " + i);
        }
        portrait.putText();
        return portrait.rows;
    }

    /** Without what lake() tells of the latest text. */
    static List<String> withoutFault(SeenWaters w) {
        List<String> all = of(w);
        all.remove(0);
        return all;
    }

    private void put(String call, int answer) {
        rows.add(call + " = " + answer);
    }

    private void putAllTold() {
        for (int what = 0; what <= 10; what++) {
            put("told(" + what + ")", w.told(what));
        }
        for (int y = 0; y < height; y++) {
            for (int x = 0; x < width; x++) {
                put("cell(" + x + ", " + y + ", 1)", w.cell(x, y, 1));
                put("cell(" + x + ", " + y + ", 2)", w.cell(x, y, 2));
                put("cell(" + x + ", " + y + ", 3)", w.cell(x, y, 3));
            }
        }
        for (int f = 0; f < men; f++) {
            put("man(" + f + ", 0)", w.man(f, 0));
            put("man(" + f + ", 1)", w.man(f, 1));
        }
    }

    private void putState(String which) {
        put(which + ": LAW", w.told(4));
        put(which + ": THE DAY", w.told(5));
        int seed = w.seed(0);
        put(which + ": THE SEED", seed);
        w.seed(seed);
        for (int f = 0; f < men; f++) {
            put(which + ": STOREYS of " + f, w.man(f, 2));
            put(which + ": PURSE of " + f, w.man(f, 4));
        }
        for (int y = 0; y < height; y++) {
            for (int x = 0; x < width; x++) {
                put(which + ": in " + x + ", " + y, w.cell(x, y, 0));
            }
        }
    }

    private void putText() {
        put("feed of the text's end", w.feed(TEXT_END.length(), Due.packed(TEXT_END)));
        put("lake() of THE TEXT", w.lake());
        put("its fault()", w.fault());
        put("its W", w.told(0));
        put("its H", w.told(1));
    }
}
