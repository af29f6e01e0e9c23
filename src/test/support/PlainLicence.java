import java.util.ArrayList;
import java.util.HashMap;
import java.util.List;
import java.util.Map;
import java.util.function.Predicate;

/**
 * The document once more, told as plainly as can be and without a thought of cost: rows are
 * tried one by one, the text's fault is looked for by trying what could come behind.
 * It shares no code with HoundLicence, so that the two can be held against each other.
 */
final class PlainLicence {
    static final int UNKNOWN = -1, BAD = -2, LATE = -3, FULL = -4, NONE = -9;

    private static final class Dog {
        int street, rank, most, bones, parent = NONE;

        Dog copy() {
            Dog d = new Dog();
            d.street = street;
            d.rank = rank;
            d.most = most;
            d.bones = bones;
            d.parent = parent;
            return d;
        }
    }

    private static final class Man {
        int dog = NONE, street, left;
        boolean sings, leashed;

        Man copy() {
            Man m = new Man();
            m.dog = dog;
            m.street = street;
            m.left = left;
            m.sings = sings;
            m.leashed = leashed;
            return m;
        }
    }

    private static final class State {
        int hour, leash = 12;
        String round = "0000";
        final List<Dog> dogs = new ArrayList<>();
        final List<Man> men = new ArrayList<>();

        State copy() {
            State s = new State();
            s.hour = hour;
            s.leash = leash;
            s.round = round;
            dogs.forEach(d -> s.dogs.add(d.copy()));
            men.forEach(m -> s.men.add(m.copy()));
            return s;
        }

        int keeps(int dog) {
            return (int) men.stream().filter(m -> m.dog == dog).count();
        }

        int bones() {
            return dogs.stream().mapToInt(d -> d.bones).sum();
        }

        void led(int dog, int way) {
            Dog d = dogs.get(dog);
            d.street = (d.street + new int[] {0, 1, 4}[way]) % 5;
            men.stream().filter(m -> m.dog == dog && m.left == 0).forEach(m -> m.street = d.street);
        }

        int hour() {
            int warden = round.charAt(hour % 4) - '0';
            boolean late = hour % 12 >= leash;
            List<Man> inside = men.stream().filter(m -> m.left > 0).toList();
            int bits = 0;
            for (int i = 0; i < men.size(); i++) {
                Man m = men.get(i);
                boolean guilty = m.dog == NONE || !m.leashed && m.sings || !m.leashed && late;
                if (m.street == warden && m.left == 0 && guilty) {
                    bits += (int) Math.pow(2, i);
                    m.left = 3;
                    if (m.dog != NONE) {
                        dogs.get(m.dog).bones += 2;
                    }
                }
            }
            for (Man m : inside) {
                m.left--;
                if (m.left == 0 && m.dog != NONE) {
                    m.street = dogs.get(m.dog).street;
                }
            }
            hour++;
            return bits;
        }

        int bits(Predicate<Man> which) {
            int bits = 0;
            for (int i = 0; i < men.size(); i++) {
                bits += which.test(men.get(i)) ? 1 << i : 0;
            }
            return bits;
        }
    }

    private static final Map<String, Boolean> PREFIXES = new HashMap<>();

    private String text = "";
    private State now = new State();
    private final List<State> acts = new ArrayList<>();
    private final State[] kept = new State[2];
    private final List<int[]> seen = new ArrayList<>();
    private long seed = 0;

    int write(int letter) {
        if (letter < 0 || letter > 255) return BAD;
        if (text.length() == 60) return FULL;
        text += (char) letter;
        return text.length();
    }

    int wipe() {
        int was = text.length();
        text = "";
        return was;
    }

    /** The state that a whole text tells, or null when it is no law. */
    private static State lawOf(String text) {
        if (!text.matches("L(0[0-9]|1[0-2])[0-4]{4}(D[0-4][0-9][1-3]|M[-0-3][0-4][01]|P[0-3][0-3])*")) return null;
        State s = new State();
        s.leash = Integer.parseInt(text.substring(1, 3));
        s.round = text.substring(3, 7);
        int at = 7;
        while (at < text.length()) {
            int[] f = new int[4];
            for (int i = 1; i < 4 && at + i < text.length(); i++) f[i] = text.charAt(at + i) - '0';
            switch (text.charAt(at)) {
                case 'D' -> {
                    Dog d = new Dog();
                    d.street = f[1];
                    d.rank = f[2];
                    d.most = f[3];
                    s.dogs.add(d);
                }
                case 'M' -> {
                    Man m = new Man();
                    m.dog = text.charAt(at + 1) == '-' ? NONE : f[1];
                    m.street = f[2];
                    m.sings = f[3] == 1;
                    if (m.dog >= s.dogs.size()) return null;
                    if (m.dog != NONE && s.keeps(m.dog) >= s.dogs.get(m.dog).most) return null;
                    if (m.dog != NONE && s.dogs.get(m.dog).street != m.street) return null;
                    s.men.add(m);
                }
                default -> {
                    int i = f[1];
                    int j = f[2];
                    if (i >= s.dogs.size() || j >= s.dogs.size() || i == j) return null;
                    if (s.dogs.get(j).parent != NONE) return null;
                    for (int up = i; up != NONE; up = s.dogs.get(up).parent) if (up == j) return null;
                    s.dogs.get(j).parent = i;
                }
            }
            at += text.charAt(at) == 'P' ? 3 : 4;
        }
        return s.dogs.size() > 4 || s.men.size() > 5 ? null : s;
    }

    private static boolean begins(String prefix) {
        return PREFIXES.computeIfAbsent(prefix, p -> p.length() < 7 ? beginsHead(p) : goesOn(p, 3));
    }

    private static boolean beginsHead(String prefix) {
        String rest = "L000000".substring(prefix.length());
        return lawOf(prefix + rest) != null;
    }

    private static boolean goesOn(String prefix, int more) {
        if (lawOf(prefix) != null) return true;
        for (int i = 0; i < 11 && more > 0; i++) {
            if (goesOn(prefix + "0123456789-".charAt(i), more - 1)) return true;
        }
        return false;
    }

    int fault() {
        if (lawOf(text) != null) return NONE;
        for (int length = 1; length <= text.length(); length++) {
            if (!begins(text.substring(0, length))) return length - 1;
        }
        return text.length();
    }

    int ordain() {
        State s = lawOf(text);
        if (s == null) return LATE;
        now = s;
        acts.clear();
        kept[0] = null;
        kept[1] = null;
        return 10 * s.dogs.size() + s.men.size();
    }

    int about(int what) {
        if (what < 0 || what > 10) return BAD;
        return new int[] {now.dogs.size(), now.men.size(), now.leash, now.hour, now.round.charAt(now.hour % 4) - '0',
            now.bits(m -> m.leashed), now.bits(m -> m.left > 0), now.bones(), acts.size(), seen.size(),
            text.length()}[what];
    }

    private boolean noDog(int dog) {
        return dog < 0 || dog >= now.dogs.size();
    }

    private boolean noMan(int man) {
        return man < 0 || man >= now.men.size();
    }

    int dog(int dog, int what) {
        if (noDog(dog)) return UNKNOWN;
        if (what < 0 || what > 5) return BAD;
        Dog d = now.dogs.get(dog);
        return new int[] {d.street, d.rank, d.most, now.bits(m -> m.dog == dog), d.bones, d.parent}[what];
    }

    int man(int man, int what) {
        if (noMan(man)) return UNKNOWN;
        if (what < 0 || what > 4) return BAD;
        Man m = now.men.get(man);
        return new int[] {m.dog, m.street, m.sings ? 1 : 0, m.leashed ? 1 : 0, m.left}[what];
    }

    private void act() {
        acts.add(now.copy());
        if (acts.size() > 14) acts.remove(0);
    }

    int lead(int dog, int way) {
        if (noDog(dog)) return UNKNOWN;
        if (way != 1 && way != 2) return BAD;
        act();
        now.led(dog, way);
        return now.dogs.get(dog).street;
    }

    int leash(int man) {
        if (noMan(man)) return UNKNOWN;
        if (now.men.get(man).dog == NONE || now.men.get(man).left > 0) return LATE;
        act();
        Man m = now.men.get(man);
        m.leashed = !m.leashed;
        return m.leashed ? 1 : 0;
    }

    int give(int man, int dog) {
        if (noMan(man) || noDog(dog)) return UNKNOWN;
        Man m = now.men.get(man);
        if (m.left > 0 || m.dog == dog || m.street != now.dogs.get(dog).street) return LATE;
        if (now.keeps(dog) >= now.dogs.get(dog).most) return FULL;
        act();
        int was = m.dog;
        m.dog = dog;
        return was;
    }

    int hour() {
        act();
        return now.hour();
    }

    int undo() {
        if (acts.isEmpty()) return LATE;
        now = acts.remove(acts.size() - 1);
        return acts.size();
    }

    int caught(int n) {
        if (n < 0 || n > 24) return BAD;
        return caughtIn(now.copy(), n);
    }

    private static int caughtIn(State s, int n) {
        int bits = 0;
        for (int i = 0; i < n; i++) bits |= s.hour();
        return bits;
    }

    /** All rows of n figures, in their order, as texts. */
    private static List<String> rows(int n) {
        List<String> rows = new ArrayList<>(List.of(""));
        for (int i = 0; i < n; i++) {
            List<String> longer = new ArrayList<>();
            for (String row : rows) for (char c = '0'; c <= '2'; c++) longer.add(row + c);
            rows = longer;
        }
        return rows;
    }

    /** The streets on which a dog is by a row (the first one: now), or null when a man of its is caught. */
    private List<Integer> trace(int dog, String row) {
        State s = now.copy();
        int own = s.bits(m -> m.dog == dog);
        List<Integer> streets = new ArrayList<>(List.of(s.dogs.get(dog).street));
        for (char c : row.toCharArray()) {
            s.led(dog, c - '0');
            streets.add(s.dogs.get(dog).street);
            if ((s.hour() & own) != 0) return null;
        }
        return streets;
    }

    int routes(int dog, int n, int street, int what) {
        if (noDog(dog)) return UNKNOWN;
        if (n < 1 || n > 7 || street < 0 || street > 4 || what < 0 || what > 1) return BAD;
        int many = 0;
        int first = NONE;
        for (String row : rows(n)) {
            List<Integer> streets = trace(dog, row);
            if (streets != null && streets.get(n) == street) {
                many++;
                if (first == NONE) first = Integer.parseInt(row);
            }
        }
        return what == 0 ? many : first;
    }

    int aired(int dog) {
        if (noDog(dog)) return UNKNOWN;
        for (int n = 0; n <= 7; n++) {
            for (String row : rows(n)) {
                List<Integer> streets = trace(dog, row);
                if (streets != null && streets.stream().distinct().count() == 5
                    && streets.stream().noneMatch(s -> rivalOn(dog, s))) return n;
            }
        }
        return NONE;
    }

    private boolean rivalOn(int dog, int street) {
        for (int i = 0; i < now.dogs.size(); i++) {
            Dog d = now.dogs.get(i);
            if (i != dog && d.street == street && d.rank == now.dogs.get(dog).rank) return true;
        }
        return false;
    }

    int heir(int dog) {
        if (noDog(dog)) return UNKNOWN;
        int dogs = now.dogs.size();
        int[][] far = new int[dogs][dogs];
        for (int i = 0; i < dogs; i++) {
            for (int j = 0; j < dogs; j++) {
                boolean next = now.dogs.get(i).parent == j || now.dogs.get(j).parent == i;
                far[i][j] = i == j ? 0 : next ? 1 : 100;
            }
        }
        for (int k = 0; k < dogs; k++)
            for (int i = 0; i < dogs; i++)
                for (int j = 0; j < dogs; j++) far[i][j] = Math.min(far[i][j], far[i][k] + far[k][j]);
        int best = NONE;
        long least = Long.MAX_VALUE;
        for (int i = 0; i < dogs; i++) {
            long worth = 1000L * far[dog][i] + 10 * (9 - now.dogs.get(i).rank) + i;
            if (i != dog && far[dog][i] < 100 && worth < least) {
                least = worth;
                best = i;
            }
        }
        return best;
    }

    int pays(int h, int n) {
        if (h < 0 || h > 12 || n < 0 || n > 24) return BAD;
        State s = now.copy();
        s.leash = h;
        caughtIn(s, n);
        return s.bones() - now.bones();
    }

    int spans(int a, int b, int t) {
        if (a < 1 || a > 9 || b < 1 || b > 9 || t < 0 || t > 99) return BAD;
        return Math.floorDiv(a * (t + 1), a + b) > Math.floorDiv(a * t, a + b) ? 0 : 1;
    }

    int see(int man, int street, int t) {
        if (noMan(man)) return UNKNOWN;
        if (street < 0 || street > 4 || t < 0 || t > 11) return BAD;
        if (seen.size() == 6) return FULL;
        seen.add(new int[] {man, street, t});
        return seen.size();
    }

    int unsee() {
        int was = seen.size();
        seen.clear();
        return was;
    }

    /** All ways, each as the dog of each man, 9 for none. */
    private List<int[]> ways() {
        List<int[]> ways = new ArrayList<>();
        int men = now.men.size();
        for (int code = 0; code < Math.pow(5, men); code++) {
            int[] way = new int[men];
            int rest = code;
            for (int i = 0; i < men; i++, rest /= 5) way[i] = rest % 5 == 4 ? 9 : rest % 5;
            if (isWay(way)) ways.add(way);
        }
        return ways;
    }

    private boolean isWay(int[] way) {
        int[] keeps = new int[10];
        for (int d : way) {
            keeps[d]++;
            if (d != 9 && (d >= now.dogs.size() || keeps[d] > now.dogs.get(d).most)) return false;
        }
        for (int[] s : seen) {
            if (s[0] >= way.length) continue;
            int street;
            if (way[s[0]] == 9) {
                street = now.men.get(s[0]).street;
            } else {
                Dog d = now.dogs.get(way[s[0]]);
                street = d.street;
                for (int t = 0; t < s[2] && d.rank % 2 != 0; t++) street = street == 4 ? 0 : street + 1;
            }
            if (street != s[1]) return false;
        }
        return true;
    }

    int walks() {
        return ways().size();
    }

    int sure(int man) {
        if (noMan(man)) return UNKNOWN;
        List<Integer> with = ways().stream().map(w -> w[man]).distinct().toList();
        return with.size() == 1 ? with.get(0) : NONE;
    }

    int rests(int row, int what) {
        if (row < 0 || row > 99999 || what < 0 || what > 1) return BAD;
        String worth = String.format("%05d", row);
        List<Integer> pairs = new ArrayList<>();
        for (int w = 0; w < 5; w++) {
            for (int b = 0; b < 5; b++) {
                boolean rest = true;
                for (int other = 0; other < 5; other++) {
                    if (other != w && gain(worth, other, b, true) > gain(worth, w, b, true)) rest = false;
                    if (other != b && gain(worth, w, other, false) > gain(worth, w, b, false)) rest = false;
                }
                if (rest) pairs.add(10 * w + b);
            }
        }
        return what == 0 ? pairs.size() : pairs.isEmpty() ? NONE : pairs.get(0);
    }

    private static int gain(String worth, int w, int b, boolean warden) {
        return (w == b) == warden ? worth.charAt(b) - '0' : 0;
    }

    int chance(int man, int n, boolean upper) {
        if (noMan(man)) return UNKNOWN;
        if (n < 0 || n > 24) return BAD;
        int above = 0;
        for (int gone = 0; gone < 4; gone++) {
            State s = now.copy();
            s.round = s.round.substring(gone) + s.round.substring(0, gone);
            above += caughtIn(s, n) >> man & 1;
        }
        int[][] fraction = {{0, 1}, {1, 4}, {1, 2}, {3, 4}, {1, 1}};
        return fraction[above][upper ? 0 : 1];
    }

    long seed(long v) {
        long was = seed;
        seed = v;
        return was;
    }

    int days(int m) {
        if (m < 1 || m > 30) return BAD;
        State s = now.copy();
        int caught = 0;
        for (int i = 0; i < m; i++) {
            seed = seed * 6364136223846793005L + 1442695040888963407L;
            long drawn = Long.remainderUnsigned(Long.divideUnsigned(seed, 1L << 33), 12);
            if (drawn / 3 < s.dogs.size()) s.led((int) (drawn / 3), (int) (drawn % 3));
            caught += Integer.bitCount(s.hour());
        }
        return caught;
    }

    int keep(int slot) {
        if (slot < 0 || slot > 1) return UNKNOWN;
        kept[slot] = now.copy();
        return now.hour;
    }

    int again(int slot) {
        if (slot < 0 || slot > 1) return UNKNOWN;
        if (kept[slot] == null) return LATE;
        now = kept[slot].copy();
        acts.clear();
        return now.hour;
    }
}
