import java.util.Random;

/** All promises: runs of random calls, each answer held against PlainWaters. The runs are the same each time. */
public final class RandomRunsTest {
    private static final int RUNS = 260;
    private static final int CALLS = 300;

    private final Random random;
    private final int run;
    private final SeenWaters tested = new SeenWaters();
    private final PlainWaters plain = new PlainWaters();
    private int width;
    private int height;
    private int men;

    private RandomRunsTest(int run) {
        this.run = run;
        this.random = new Random(1000L + run);
    }

    public static void main(String[] args) {
        int runs = args.length > 1 ? Integer.parseInt(args[1]) : RUNS;
        for (int run = 0; run < runs; run++) {
            new RandomRunsTest(run).go();
        }
        Due.end("RandomRunsTest");
    }

    private void go() {
        if (run % 10 != 0) {
            tellLake();
        }
        for (int k = 0; k < CALLS; k++) {
            call(random.nextInt(31));
        }
    }

    private void due(String call, int got, int want) {
        Due.due("run " + run + ": " + call, got, want);
    }

    private int upTo(int most) {
        return random.nextInt(most + 1);
    }

    /** Mostly within 0 .. below, now and then just beyond. */
    private int near(int below) {
        return random.nextInt(12) == 0 ? random.nextInt(below + 4) - 2 : random.nextInt(Math.max(1, below));
    }

    private void tellLake() {
        String text = lakeText();
        if (random.nextInt(3) == 0) {
            text = spoilt(text);
        }
        if (random.nextInt(20) == 0) {
            text = " ".repeat(upTo(9));
        }
        if (text.length() > 500) {
            text = text.substring(0, 500);
        }
        for (int i = 0; i < text.length();) {
            int n = Math.min(text.length() - i, 1 + random.nextInt(8));
            long bytes = random.nextLong() << 8 * n % 64 | Due.packed(text.substring(i, i + n));
            if (n == 8) {
                bytes = Due.packed(text.substring(i, i + n));
            }
            due("feed", tested.feed(n, bytes), plain.feed(n, bytes));
            i += n;
        }
        due("lake() of '" + text + "'", tested.lake(), plain.lake());
        due("fault() of '" + text + "'", tested.fault(), plain.fault());
        width = plain.told(0);
        height = plain.told(1);
        men = plain.told(2);
    }

    private String lakeText() {
        int w = 1 + random.nextInt(12);
        int h = 1 + random.nextInt(Math.min(12, 60 / w));
        StringBuilder text = new StringBuilder("lake " + w + " " + h + ";");
        int doors = upTo(6);
        int things = upTo(20);
        int tall = random.nextBoolean() ? 99 : 8;
        for (int i = 0; i < doors; i++) {
            text.append("door ").append(upTo(w - 1)).append(' ').append(upTo(random.nextBoolean() ? 99 : 9)).append(' ').append(upTo(9)).append(';');
        }
        boolean[] stood = new boolean[60];
        boolean[] fished = new boolean[60];
        boolean storeyTold = false;
        for (int i = 0; i < things; i++) {
            int x = upTo(w - 1);
            int y = upTo(h - 1);
            int c = y * w + x;
            int kind = random.nextInt(8);
            if (kind < 4 && (!stood[c] || random.nextInt(20) == 0)) {
                stood[c] = true;
                text.append("stand ").append(x).append(' ').append(y).append(' ').append(1 + upTo(tall - 1)).append(';');
            } else if (kind < 6 && (!fished[c] || random.nextInt(20) == 0)) {
                fished[c] = true;
                text.append("fish ").append(x).append(' ').append(y).append(' ').append(upTo(99)).append(';');
            } else if (kind == 6) {
                int first = upTo(30);
                text.append("mist ").append(first).append(' ').append(first + upTo(20)).append(' ').append(upTo(random.nextBoolean() ? 20 : 6)).append(';');
            } else if (kind == 7 && !storeyTold) {
                storeyTold = true;
                text.append("storey ").append(1 + upTo(19)).append(' ').append(upTo(random.nextBoolean() ? 999 : 30)).append(';');
            }
        }
        return text.toString();
    }

    private String spoilt(String text) {
        StringBuilder spoilt = new StringBuilder(text);
        String signs = "  ;;01239adeiklmnoprsty?";
        String[] parts = {"lake 1 1;", "door 0 0 0;", "storey 3 3;", "stand 0 0 1;", "fish 0 0 1;", "mist 3 2 1;", "mist 2 3 1;", "  ", "0", "9"};
        int times = 1 + random.nextInt(2);
        for (int i = 0; i < times && spoilt.length() > 0; i++) {
            int at = random.nextInt(spoilt.length());
            switch (random.nextInt(6)) {
                case 0 -> spoilt.setCharAt(at, signs.charAt(random.nextInt(signs.length())));
                case 1 -> spoilt.deleteCharAt(at);
                case 2 -> spoilt.insert(at, signs.charAt(random.nextInt(signs.length())));
                case 3 -> spoilt.setLength(at);
                case 4 -> spoilt.append(parts[random.nextInt(parts.length)].repeat(1 + random.nextInt(8)));
                default -> spoilt.insert(spoilt.indexOf(";") + 1, parts[random.nextInt(parts.length)]);
            }
        }
        return spoilt.toString();
    }

    private void call(int kind) {
        int f = near(men);
        int x = near(width);
        int y = near(height);
        switch (kind) {
            case 0 -> { if (random.nextInt(12) == 0) tellLake(); }
            case 1 -> { int what = near(11); due("told(" + what + ")", tested.told(what), plain.told(what)); }
            case 2, 3 -> { int what = near(4); due("cell(" + x + ", " + y + ", " + what + ")", tested.cell(x, y, what), plain.cell(x, y, what)); }
            case 4, 5 -> { int what = near(7); due("man(" + f + ", " + what + ")", tested.man(f, what), plain.man(f, what)); }
            case 6 -> due("sees(" + f + ", " + x + ", " + y + ")", tested.sees(f, x, y), plain.sees(f, x, y));
            case 7 -> due("blocker(" + f + ", " + x + ", " + y + ")", tested.blocker(f, x, y), plain.blocker(f, x, y));
            case 8 -> due("share(" + f + ")", tested.share(f), plain.share(f));
            case 9 -> { int i = near(20); due("free(" + i + ")", tested.free(i), plain.free(i)); }
            case 10 -> { int v = near(3); due("law(" + v + ")", tested.law(v), plain.law(v)); }
            case 11 -> { if (random.nextInt(4) == 0) due("build(" + f + ")", tested.build(f), plain.build(f)); }
            case 12 -> { int t = near(random.nextBoolean() ? 100 : 8); due("plant(" + x + ", " + y + ", " + t + ")", tested.plant(x, y, t), plain.plant(x, y, t)); }
            case 13 -> { int n = near(6); due("day(" + n + ")", tested.day(n), plain.day(n)); }
            case 14 -> { int n = near(8); due("drift(" + n + ")", tested.drift(n), plain.drift(n)); }
            case 15 -> { if (random.nextInt(6) == 0) due("begin()", tested.begin(), plain.begin()); }
            case 16, 17 -> { int t = near(random.nextBoolean() ? 100 : 8); int what = near(3); due("tree(" + f + ", " + t + ", " + what + ")", tested.tree(f, t, what), plain.tree(f, t, what)); }
            case 18 -> due("wins(" + f + ")", tested.wins(f), plain.wins(f));
            case 19 -> due("view(" + f + ", " + x + ", " + y + ")", tested.view(f, x, y), plain.view(f, x, y));
            case 20, 21 -> callTowers(f);
            case 22, 23 -> { int n = near(9); due("boat(" + f + ", " + n + ")", tested.boat(f, n), plain.boat(f, n)); }
            case 24 -> due("needed(" + f + ")", tested.needed(f), plain.needed(f));
            case 25 -> due("write(" + f + ", " + x + ", " + y + ")", tested.write(f, x, y), plain.write(f, x, y));
            case 26 -> { if (random.nextInt(5) == 0) due("tear()", tested.tear(), plain.tear()); }
            case 27 -> due("judge()", tested.judge(), plain.judge());
            case 28 -> { int v = random.nextInt(); due("seed(" + v + ")", tested.seed(v), plain.seed(v)); }
            case 29 -> { int i = near(2); due("keep(" + i + ")", tested.keep(i), plain.keep(i)); }
            default -> { int i = near(2); due("goBack(" + i + ")", tested.goBack(i), plain.goBack(i)); }
        }
    }

    private void callTowers(int f) {
        int b = near(men);
        int n = near(random.nextInt(4) == 0 ? 7 : 4);
        int d = 1 + near(99);
        int what = near(2);
        due("towers(" + f + ", " + b + ", " + n + ", " + d + ", " + what + ")", tested.towers(f, b, n, d, what), plain.towers(f, b, n, d, what));
    }
}
