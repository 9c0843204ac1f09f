import java.util.ArrayList;
import java.util.Arrays;
import java.util.HashMap;
import java.util.HashSet;
import java.util.List;
import java.util.Map;
import java.util.Set;

/**
 * The document once more, as plainly as can be and with the whole library: nothing is kept between
 * calls, nothing is looked at twice in a clever way. RandomRunsTest holds SeenWaters against it.
 */
final class PlainWaters {
    private static final int NONE = Due.NONE;
    private static final int UNKNOWN = Due.UNKNOWN;
    private static final int OUTSIDE = Due.OUTSIDE;
    private static final int NOT = Due.NOT;
    private static final int FULL = Due.FULL;

    private record Door(int place, int ground, int storeys) { }

    private record Mist(int first, int last, int far) { }

    private record Claim(int man, int x, int y) { }

    private record Image(int[] storeys, int[] purses, Map<Integer, Integer> stands, int day, int law, long seed) { }

    private static final class Told {
        int width = 0;
        int height = 0;
        int storeyHigh = 3;
        int storeyCost = 100;
        final List<Door> doors = new ArrayList<>();
        final List<Mist> mists = new ArrayList<>();
        final Map<Integer, Integer> stands = new HashMap<>();
        final Map<Integer, Integer> fish = new HashMap<>();
    }

    private String text = "";
    private int faultKind;
    private int faultAt = NONE;
    private Told told = new Told();
    private int[] storeys = {};
    private int[] purses = {};
    private Map<Integer, Integer> stands = new HashMap<>();
    private int day;
    private int law;
    private long seed;
    private final List<Claim> book = new ArrayList<>();
    private final Image[] images = new Image[2];

    int feed(int n, long bytes) {
        if (n < 1 || n > 8) return OUTSIDE;
        if (text.length() + n > 500) return FULL;
        for (int k = n; k > 0; k--) text += (char) (bytes >> 8 * (k - 1) & 255);
        return text.length();
    }

    // ---- reading: all tokens first, then what each of them may be

    private record Token(char kind, String body, int at) { }

    private static List<Token> tokens(String text) {
        List<Token> all = new ArrayList<>();
        int i = 0;
        while (i < text.length()) {
            char kind = kindOf(text.charAt(i));
            int j = i + 1;
            while (j < text.length() && (kind == 'w' || kind == 'n') && kindOf(text.charAt(j)) == kind) j++;
            if (kind != ' ') all.add(new Token(kind, text.substring(i, j), i));
            i = j;
        }
        all.add(new Token('e', "", text.length()));
        return all;
    }

    private static char kindOf(char c) {
        if (c >= 'a' && c <= 'z') return 'w';
        if (c >= '0' && c <= '9') return 'n';
        return c == ' ' || c == ';' ? c : '?';
    }

    private boolean fails(int kind, Token token) {
        faultKind = kind;
        faultAt = token.at();
        return false;
    }

    private boolean read(Told lake) {
        List<Token> all = tokens(text);
        Map<String, Integer> most = Map.of("lake", 1, "door", 6, "stand", 30, "fish", 30, "mist", 10, "storey", 1);
        Map<String, Integer> had = new HashMap<>();
        int i = 0;
        while (all.get(i).kind() != 'e') {
            Token word = all.get(i++);
            if (word.kind() != 'w' || !most.containsKey(word.body())) return fails(1, word);
            if (had.isEmpty() && !word.body().equals("lake")) return fails(1, word);
            int count = had.merge(word.body(), 1, Integer::sum);
            if (count > most.get(word.body())) return fails(3, word);
            int parts = word.body().equals("lake") || word.body().equals("storey") ? 2 : 3;
            int[] n = new int[parts];
            for (int p = 0; p < parts; p++) {
                Token number = all.get(i++);
                if (number.kind() != 'n') return fails(1, number);
                if (number.body().length() > 3) return fails(2, number);
                n[p] = Integer.parseInt(number.body());
                int[] range = range(word.body(), p, n, lake);
                if (n[p] < range[0] || n[p] > range[1]) return fails(2, number);
                if (word.body().equals("lake") && p == 1 && n[0] * n[1] > 60) return fails(2, number);
                if (word.body().equals("stand") && p == 1 && lake.stands.containsKey(key(n[0], n[1]))) return fails(4, number);
                if (word.body().equals("fish") && p == 1 && lake.fish.containsKey(key(n[0], n[1]))) return fails(4, number);
                if (word.body().equals("mist") && p == 1 && n[1] < n[0]) return fails(4, number);
            }
            Token end = all.get(i++);
            if (end.kind() != ';') return fails(1, end);
            take(word.body(), n, lake);
        }
        return true;
    }

    private static int[] range(String word, int part, int[] n, Told lake) {
        int[][] ranges = switch (word) {
            case "lake" -> new int[][] {{1, 12}, {1, 12}};
            case "door" -> new int[][] {{0, lake.width - 1}, {0, 99}, {0, 9}};
            case "stand" -> new int[][] {{0, lake.width - 1}, {0, lake.height - 1}, {1, 99}};
            case "fish" -> new int[][] {{0, lake.width - 1}, {0, lake.height - 1}, {0, 99}};
            case "mist" -> new int[][] {{0, 999}, {0, 999}, {0, 20}};
            default -> new int[][] {{1, 20}, {0, 999}};
        };
        return ranges[part];
    }

    private static void take(String word, int[] n, Told lake) {
        switch (word) {
            case "lake" -> { lake.width = n[0]; lake.height = n[1]; }
            case "door" -> lake.doors.add(new Door(n[0], n[1], n[2]));
            case "stand" -> lake.stands.put(key(n[0], n[1]), n[2]);
            case "fish" -> lake.fish.put(key(n[0], n[1]), n[2]);
            case "mist" -> lake.mists.add(new Mist(n[0], n[1], n[2]));
            default -> { lake.storeyHigh = n[0]; lake.storeyCost = n[1]; }
        }
    }

    private static int key(int x, int y) {
        return 100 * x + y;
    }

    int lake() {
        Told lake = new Told();
        faultKind = 0;
        faultAt = NONE;
        boolean sound = read(lake);
        text = "";
        if (!sound) return -10 - faultKind;
        told = lake;
        begin();
        book.clear();
        Arrays.fill(images, null);
        return lake.width * lake.height;
    }

    int fault() {
        return faultAt;
    }

    int told(int what) {
        if (what < 0 || what > 10) return OUTSIDE;
        int free = 0;
        while (free(free) != NONE) free++;
        return new int[] {told.width, told.height, told.doors.size(), text.length(), law, day, far(), book.size(),
            told.storeyHigh, told.storeyCost, free}[what];
    }

    // ---- eyes

    private int far() {
        int least = NONE;
        for (Mist mist : told.mists) {
            if (mist.first() <= day && day <= mist.last()) least = least == NONE ? mist.far() : Math.min(least, mist.far());
        }
        return least;
    }

    private int eye(int f) {
        return told.doors.get(f).ground() + storeys[f] * told.storeyHigh + 1;
    }

    private boolean noCell(int x, int y) {
        return x < 0 || y < 0 || x >= told.width || y >= told.height;
    }

    private boolean noMan(int f) {
        return f < 0 || f >= told.doors.size();
    }

    private int high(int x, int y) {
        return stands.getOrDefault(key(x, y), 0);
    }

    private int fishIn(int x, int y) {
        return told.fish.getOrDefault(key(x, y), 1);
    }

    int blocker(int f, int x, int y) {
        if (noMan(f) || noCell(x, y)) return UNKNOWN;
        int a = told.doors.get(f).place();
        for (int z = 0; z < y; z++) {
            int nearest = Integer.MIN_VALUE;
            int off = Integer.MAX_VALUE;
            for (int at = 0; at < told.width; at++) {
                int apart = Math.abs((at - a) * (y + 1) - (x - a) * (z + 1));
                if (apart <= off) {
                    off = apart;
                    nearest = at;
                }
            }
            if (high(nearest, z) * (y + 1) > eye(f) * (y - z)) return key(nearest, z);
        }
        return NONE;
    }

    private boolean inReach(int f, int x, int y) {
        int far = far();
        int a = told.doors.get(f).place();
        return far == NONE || (Math.abs(x - a) <= far && y + 1 <= far);
    }

    int sees(int f, int x, int y) {
        if (noMan(f) || noCell(x, y)) return UNKNOWN;
        return inReach(f, x, y) && blocker(f, x, y) == NONE ? 1 : 0;
    }

    private List<Integer> seers(int x, int y) {
        List<Integer> all = new ArrayList<>();
        for (int f = 0; f < told.doors.size(); f++) if (sees(f, x, y) == 1) all.add(f);
        return all;
    }

    private List<Integer> owners(int x, int y) {
        List<Integer> all = seers(x, y);
        if (law == 0 || all.isEmpty()) return all;
        int best = all.get(0);
        for (int f : all) {
            if (law == 1 && apart(f, x, y) < apart(best, x, y)) best = f;
            if (law == 2 && eye(f) > eye(best)) best = f;
        }
        return List.of(best);
    }

    private int apart(int f, int x, int y) {
        int a = told.doors.get(f).place();
        return (x - a) * (x - a) + (y + 1) * (y + 1);
    }

    private static int set(List<Integer> all) {
        int set = 0;
        for (int f : all) set += 1 << f;
        return set;
    }

    int cell(int x, int y, int what) {
        if (noCell(x, y)) return UNKNOWN;
        if (what < 0 || what > 3) return OUTSIDE;
        return new int[] {high(x, y), fishIn(x, y), set(seers(x, y)), set(owners(x, y))}[what];
    }

    int man(int f, int what) {
        if (noMan(f)) return UNKNOWN;
        if (what < 0 || what > 6) return OUTSIDE;
        int seen = 0;
        int owned = 0;
        for (int y = 0; y < told.height; y++) {
            for (int x = 0; x < told.width; x++) {
                if (seers(x, y).contains(f)) seen++;
                if (owners(x, y).contains(f)) owned++;
            }
        }
        Door door = told.doors.get(f);
        return new int[] {door.place(), door.ground(), storeys[f], eye(f), purses[f], seen, owned}[what];
    }

    private int part(int f, int x, int y) {
        List<Integer> all = owners(x, y);
        return all.contains(f) ? fishIn(x, y) / all.size() : 0;
    }

    int share(int f) {
        if (noMan(f)) return UNKNOWN;
        int sum = 0;
        for (int y = 0; y < told.height; y++) for (int x = 0; x < told.width; x++) sum += part(f, x, y);
        return sum;
    }

    int free(int i) {
        List<Integer> all = new ArrayList<>();
        for (int y = 0; y < told.height; y++) {
            for (int x = 0; x < told.width; x++) if (seers(x, y).isEmpty()) all.add(key(x, y));
        }
        return i >= 0 && i < all.size() ? all.get(i) : NONE;
    }

    // ---- deeds

    int law(int v) {
        if (v < 0 || v > 2) return OUTSIDE;
        int was = law;
        law = v;
        return was;
    }

    int build(int f) {
        if (noMan(f)) return UNKNOWN;
        if (storeys[f] == 9) return NOT;
        purses[f] -= told.storeyCost;
        return ++storeys[f];
    }

    int plant(int x, int y, int t) {
        if (noCell(x, y)) return UNKNOWN;
        if (t < 0 || t > 99) return OUTSIDE;
        int was = high(x, y);
        stands.put(key(x, y), t);
        return was;
    }

    private void dayGoesBy() {
        for (int f = 0; f < purses.length; f++) purses[f] += share(f);
        day++;
    }

    int day(int n) {
        if (n < 1 || n > 99) return OUTSIDE;
        if (told.width == 0) return NOT;
        for (int k = 0; k < n; k++) dayGoesBy();
        return day;
    }

    private int draw(int n) {
        seed = (seed * 1103515245L + 12345L) % 2147483648L;
        return (int) (seed / 65536 % n);
    }

    int drift(int n) {
        if (n < 1 || n > 99) return OUTSIDE;
        if (told.width == 0 || told.doors.isEmpty()) return NOT;
        for (int k = 0; k < n; k++) {
            int f = draw(told.doors.size());
            if (purses[f] >= told.storeyCost && storeys[f] < 9) {
                build(f);
            } else {
                int c = draw(told.width * told.height);
                plant(c % told.width, c / told.width, draw(10));
            }
            dayGoesBy();
        }
        return day;
    }

    int begin() {
        int was = day;
        day = 0;
        stands = new HashMap<>(told.stands);
        storeys = told.doors.stream().mapToInt(Door::storeys).toArray();
        purses = new int[told.doors.size()];
        return was;
    }

    // ---- tried

    int tree(int f, int t, int what) {
        if (noMan(f)) return UNKNOWN;
        if (t < 1 || t > 99 || what < 0 || what > 2) return OUTSIDE;
        int[] best = {NONE, NONE, NONE};
        for (int y = 0; y < told.height; y++) {
            for (int x = 0; x < told.width; x++) {
                int was = plant(x, y, t);
                if (share(f) > best[2]) best = new int[] {x, y, share(f)};
                plant(x, y, was);
            }
        }
        return best[what];
    }

    int wins(int f) {
        if (noMan(f)) return UNKNOWN;
        if (storeys[f] == 9) return NOT;
        int was = share(f);
        storeys[f]++;
        int then = share(f);
        storeys[f]--;
        return then - was;
    }

    int view(int f, int x, int y) {
        if (noMan(f) || noCell(x, y)) return UNKNOWN;
        int was = share(f);
        int stood = plant(x, y, 0);
        int then = share(f);
        plant(x, y, stood);
        return then - was;
    }

    int towers(int a, int b, int n, int d, int what) {
        if (noMan(a) || noMan(b) || a == b) return UNKNOWN;
        if (n < 0 || n > 6 || d < 1 || d > 99 || what < 0 || what > 1) return OUTSIDE;
        if (n == 0 && what == 1) return NONE;
        if (what == 0) return play(new int[] {a, b}, new int[2], 0, n, d);
        if (storeys[a] == 9) return 0;
        int waits = play(new int[] {a, b}, new int[2], 1, n, d);
        storeys[a]++;
        int builds = play(new int[] {a, b}, new int[] {told.storeyCost, 0}, 1, n, d);
        storeys[a]--;
        return builds > waits ? 1 : 0;
    }

    private int play(int[] men, int[] paid, int move, int moves, int d) {
        if (move == moves) return (share(men[0]) * d - paid[0]) - (share(men[1]) * d - paid[1]);
        int who = move % 2;
        int waits = play(men, paid, move + 1, moves, d);
        if (storeys[men[who]] == 9) return waits;
        storeys[men[who]]++;
        paid[who] += told.storeyCost;
        int builds = play(men, paid, move + 1, moves, d);
        paid[who] -= told.storeyCost;
        storeys[men[who]]--;
        return who == 0 ? Math.max(waits, builds) : Math.min(waits, builds);
    }

    int boat(int f, int n) {
        if (noMan(f)) return UNKNOWN;
        if (n < 1 || n > 8) return OUTSIDE;
        int a = told.doors.get(f).place();
        Map<Integer, Integer> own = new HashMap<>();
        for (int y = 0; y < told.height; y++) {
            for (int x = 0; x < told.width; x++) if (owners(x, y).contains(f)) own.put(key(x, y), part(f, x, y));
        }
        return own.containsKey(key(a, 0)) ? sail(key(a, 0), n, own, new ArrayList<>()) : NONE;
    }

    private static int sail(int at, int left, Map<Integer, Integer> own, List<Integer> path) {
        path.add(at);
        int best = 0;
        if (left == 1) {
            Set<Integer> fished = new HashSet<>(path);
            for (int place : fished) best += own.get(place);
        } else {
            // Waiting in place stands for ending earlier.
            for (int step : new int[] {0, 100, -100, 1, -1}) {
                if (own.containsKey(at + step)) best = Math.max(best, sail(at + step, left - 1, own, path));
            }
        }
        path.remove(path.size() - 1);
        return best;
    }

    int needed(int f) {
        if (noMan(f)) return UNKNOWN;
        int was = storeys[f];
        int answer = NONE;
        for (int more = 0; more <= 99 && answer == NONE; more++) {
            storeys[f] = was + more;
            boolean all = true;
            for (int y = 0; y < told.height; y++) {
                for (int x = 0; x < told.width; x++) all &= !inReach(f, x, y) || sees(f, x, y) == 1;
            }
            if (all) answer = more;
        }
        storeys[f] = was;
        return answer;
    }

    // ---- books, draws, images

    int write(int f, int x, int y) {
        if (noMan(f) || noCell(x, y)) return UNKNOWN;
        if (book.size() == 40) return FULL;
        book.add(new Claim(f, x, y));
        return book.size();
    }

    int tear() {
        int had = book.size();
        book.clear();
        return had;
    }

    int judge() {
        for (int i = 0; i < book.size(); i++) {
            Claim claim = book.get(i);
            if (!owners(claim.x(), claim.y()).contains(claim.man())) return i;
        }
        return NONE;
    }

    int seed(int v) {
        if (v < 0) return OUTSIDE;
        int was = (int) seed;
        seed = v;
        return was;
    }

    int keep(int i) {
        if (i != 0 && i != 1) return UNKNOWN;
        images[i] = new Image(storeys.clone(), purses.clone(), new HashMap<>(stands), day, law, seed);
        return 1;
    }

    int goBack(int i) {
        if (i != 0 && i != 1) return UNKNOWN;
        Image image = images[i];
        if (image == null) return NOT;
        storeys = image.storeys().clone();
        purses = image.purses().clone();
        stands = new HashMap<>(image.stands());
        day = image.day();
        law = image.law();
        seed = image.seed();
        return 1;
    }
}
