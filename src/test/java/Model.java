import java.math.BigInteger;
import java.nio.charset.StandardCharsets;
import java.util.ArrayList;
import java.util.Arrays;
import java.util.Comparator;
import java.util.List;
import java.util.Optional;
import java.util.TreeSet;

/**
 * The document once more, told with sets and lists and by trying all there is: slow, plain, and on other
 * ways than the class, so that both err alike only where the document was read wrong.
 */
final class Model {
    static final int BAD = NeverSaid.BAD, NO = NeverSaid.NO, FULL = NeverSaid.FULL, NONE = NeverSaid.NONE;
    static final int NOTHING = NeverSaid.NOTHING, KIND = NeverSaid.KIND, INDEX = NeverSaid.INDEX, SIZE = NeverSaid.SIZE;

    private static final class Man {
        int kind, bold;
        TreeSet<Integer> away = new TreeSet<>(), friends = new TreeSet<>(), told = new TreeSet<>();

        Man same() {
            Man m = new Man();
            m.kind = kind;
            m.bold = bold;
            m.away.addAll(away);
            m.friends.addAll(friends);
            m.told.addAll(told);
            return m;
        }
    }

    private static final class Act {
        TreeSet<Integer> doers = new TreeSet<>(), left = new TreeSet<>();
        int hour, weight, sayings, lies;

        Act same() {
            Act a = new Act();
            a.doers.addAll(doers);
            a.left.addAll(left);
            a.hour = hour;
            a.weight = weight;
            a.sayings = sayings;
            a.lies = lies;
            return a;
        }
    }

    private record Law(int key, List<String> words) {
        int pieces() {
            return (int) words.stream().filter(w -> Character.isLetterOrDigit(w.charAt(0))).count();
        }
    }

    private static final class World {
        List<Man> men = new ArrayList<>();
        List<Act> acts = new ArrayList<>();
        List<Law> laws = new ArrayList<>();
        int stop = 2, z = 1;

        World same() {
            World w = new World();
            men.forEach(m -> w.men.add(m.same()));
            acts.forEach(a -> w.acts.add(a.same()));
            w.laws.addAll(laws);
            w.stop = stop;
            w.z = z;
            return w;
        }

        boolean man(int p) {
            return p >= 0 && p < men.size();
        }

        boolean act(int d) {
            return d >= 0 && d < acts.size();
        }

        TreeSet<Integer> everyone() {
            TreeSet<Integer> all = new TreeSet<>();
            for (int i = 0; i < men.size(); i++) {
                all.add(i);
            }
            return all;
        }

        void come(Man m) {
            men.add(m);
            acts.forEach(a -> a.left.add(men.size() - 1));
        }

        int draw() {
            z = z * 1103515245 + 12345;
            return z >>> 8;
        }

        /** By walking from one to the next as long as somebody new is met. */
        TreeSet<Integer> followers(int p) {
            TreeSet<Integer> met = new TreeSet<>();
            List<Integer> way = new ArrayList<>(men.get(p).told);
            while (!way.isEmpty()) {
                int q = way.remove(way.size() - 1);
                if (met.add(q)) {
                    way.addAll(men.get(q).told);
                }
            }
            return met;
        }

        TreeSet<Integer> goers(int p) {
            TreeSet<Integer> go = followers(p);
            go.add(p);
            return go;
        }

        boolean lie(Act a, int p) {
            return goers(p).stream().anyMatch(a.doers::contains);
        }

        Optional<Law> law(int key) {
            return laws.stream().filter(l -> l.key == key).reduce((one, later) -> later);
        }

        boolean mayBe(int s, Act a, int p) {
            TreeSet<Integer> rest = new TreeSet<>(a.left);
            rest.removeAll(goers(p));
            boolean lawful = law(0).map(l -> value(l, s, p, a.weight) != 0).orElse(true);
            return a.left.contains(p) && lawful && rest.size() >= stop;
        }

        Optional<Integer> choice(int s, Act a) {
            Man m = men.get(s);
            TreeSet<Integer> may = everyone();
            may.removeIf(p -> !mayBe(s, a, p));
            Optional<Integer> least = may.stream().findFirst();
            switch (m.kind) {
                case 1: return may.stream().filter(p -> !lie(a, p)).findFirst();
                case 3: return may.stream().filter(p -> !lie(a, p)).max(Comparator.naturalOrder());
                case 2: return may.stream().filter(m.friends::contains).findFirst().or(() -> least);
                case 4: return a.weight > m.bold ? Optional.empty()
                        : may.stream().filter(m.friends::contains).findFirst().or(() -> least);
                case 5: return may.stream().filter(p -> lie(a, p)).findFirst().or(() -> least);
                default: return least;
            }
        }

        void speak(Act a, int p) {
            if (lie(a, p)) {
                a.lies++;
            }
            a.sayings++;
            a.left.removeAll(goers(p));
        }

        void round(Act a) {
            for (int p = 0; p < men.size(); p++) {
                int self = p;
                int lot = draw() % 100;
                int bold = law(2).map(l -> value(l, men.get(self).bold, self, a.left.size())).orElse(men.get(p).bold);
                if (lot < Math.max(0, Math.min(100, bold))) {
                    choice(p, a).ifPresent(q -> speak(a, q));
                }
            }
        }

        int cost(Act a) {
            return law(1).map(l -> Math.max(0, Math.min(99999, value(l, a.lies, a.weight, a.left.size()))))
                    .orElse(a.lies * a.weight);
        }

        /** All sets, from the fewest and the least on. */
        int fewest(Act a) {
            TreeSet<Integer> wanted = everyone();
            wanted.removeAll(a.doers);
            int target = bits(wanted);
            int[] go = new int[men.size()];
            for (int p = 0; p < go.length; p++) {
                go[p] = bits(goers(p));
            }
            int best = NONE;
            for (int set = 0; set < 1 << men.size(); set++) {
                int together = 0;
                for (int p = 0; p < go.length; p++) {
                    together |= (set >> p & 1) == 1 ? go[p] : 0;
                }
                if (together == target && (best == NONE || Integer.bitCount(set) < Integer.bitCount(best))) {
                    best = set;
                }
            }
            return best;
        }

        BigInteger[] falls(int p) {
            BigInteger above = BigInteger.ZERO;
            BigInteger below = BigInteger.ONE;
            for (Act a : acts) {
                if (a.left.contains(p)) {
                    BigInteger many = BigInteger.valueOf(a.left.size());
                    above = above.multiply(many).add(below);
                    below = below.multiply(many);
                }
            }
            BigInteger common = above.gcd(below);
            return new BigInteger[] {above.divide(common), below.divide(common)};
        }
    }

    private World world = new World();
    private World image = null;
    private String tape = "";
    private final List<Integer> waiting = new ArrayList<>();
    private final float[][] rows = new float[4][];
    private final int[] sorts = new int[4];
    private final Object[] slots = new Object[5];

    static int bits(TreeSet<Integer> set) {
        return set.stream().mapToInt(k -> 1 << k).sum();
    }

    static boolean in(int v, int least, int greatest) {
        return v >= least && v <= greatest;
    }

    private static final int[] ABOVE = {-1, 0, 0, 1, 2, 0};

    static boolean under(int kind, int wanted) {
        return kind == wanted || kind > 0 && under(ABOVE[kind], wanted);
    }

    static int worth(int kind, int bold) {
        switch (kind) {
            case 1: return worth(0, bold) + 5;
            case 2: return 100 - bold;
            case 3: return 2 * worth(1, bold);
            case 4: return worth(2, bold) - 7;
            case 5: return 10 * bold;
            default: return bold;
        }
    }

    // ---- people

    int person(int kind, int bold) {
        if (!in(kind, 0, 5) || !in(bold, 0, 100)) return BAD;
        if (world.men.size() == 12) return FULL;
        Man m = new Man();
        m.kind = kind;
        m.bold = bold;
        world.come(m);
        return world.men.size() - 1;
    }

    int told(int p, int what) {
        if (!world.man(p) || !in(what, 0, 6)) return BAD;
        Man m = world.men.get(p);
        int[] all = {m.kind, m.bold, bits(m.away), bits(m.friends), bits(world.followers(p)), worth(m.kind, m.bold),
            (int) world.acts.stream().filter(a -> !a.left.contains(p)).count()};
        return all[what];
    }

    int as(int p, int kind) {
        if (!world.man(p) || !in(kind, 0, 5)) return BAD;
        return under(world.men.get(p).kind, kind) ? world.men.get(p).bold : KIND;
    }

    int turns(int p, int kind) {
        if (!world.man(p) || !in(kind, 0, 5)) return BAD;
        int was = world.men.get(p).kind;
        world.men.get(p).kind = kind;
        return was;
    }

    int bolder(int p, int v) {
        if (!world.man(p) || !in(v, 0, 100)) return BAD;
        int was = world.men.get(p).bold;
        world.men.get(p).bold = v;
        return was;
    }

    private static int put(TreeSet<Integer> set, int k, int v) {
        boolean changed = v == 1 ? set.add(k) : set.remove(k);
        return changed ? 1 - v : v;
    }

    int away(int p, int hour, int v) {
        if (!world.man(p) || !in(hour, 0, 23) || !in(v, 0, 1)) return BAD;
        return put(world.men.get(p).away, hour, v);
    }

    int friend(int p, int q, int v) {
        if (!world.man(p) || !world.man(q) || p == q || !in(v, 0, 1)) return BAD;
        put(world.men.get(q).friends, p, v);
        return put(world.men.get(p).friends, q, v);
    }

    int follow(int p, int q, int v) {
        if (!world.man(p) || !world.man(q) || p == q || !in(v, 0, 1)) return BAD;
        return put(world.men.get(p).told, q, v);
    }

    int deal(int n) {
        if (!in(n, 1, 12)) return BAD;
        int came = 0;
        while (came < n && world.men.size() < 12) {
            Man m = new Man();
            m.kind = world.draw() % 6;
            m.bold = world.draw() % 101;
            int one = world.draw();
            int other = world.draw();
            for (int hour = 0; hour < 24; hour++) {
                if ((one >> hour & 1) == 1 && (other >> hour & 1) == 1) m.away.add(hour);
            }
            world.come(m);
            came++;
        }
        return came;
    }

    int seed(int v) {
        int was = world.z;
        world.z = v;
        return was;
    }

    // ---- deeds

    int deed(int doers, int hour, int weight) {
        Act a = new Act();
        for (int k = 0; k < 32; k++) {
            if ((doers >> k & 1) == 1) a.doers.add(k);
        }
        a.left = world.everyone();
        if (!in(a.doers.size(), 1, 2) || !a.left.containsAll(a.doers)) return BAD;
        if (!in(hour, 0, 23) || !in(weight, 0, 99)) return BAD;
        if (world.acts.size() == 8) return FULL;
        a.hour = hour;
        a.weight = weight;
        world.acts.add(a);
        return world.acts.size() - 1;
    }

    int deedTold(int d, int what) {
        if (!world.act(d) || !in(what, 0, 7)) return BAD;
        Act a = world.acts.get(d);
        int[] all = {bits(a.doers), a.hour, a.weight, bits(a.left), a.sayings, a.lies, world.cost(a),
            a.left.equals(a.doers) ? 1 : 0};
        return all[what];
    }

    int again(int d) {
        if (!world.act(d)) return BAD;
        Act a = world.acts.get(d);
        int were = world.men.size() - a.left.size();
        a.left = world.everyone();
        a.sayings = 0;
        a.lies = 0;
        return were;
    }

    int stop(int v) {
        if (!in(v, 0, 4)) return BAD;
        int was = world.stop;
        world.stop = v;
        return was;
    }

    int say(int s, int d, int p) {
        if (!world.man(s) || !world.act(d) || !world.man(p)) return BAD;
        Act a = world.acts.get(d);
        if (!world.mayBe(s, a, p)) return NO;
        world.speak(a, p);
        return a.left.size();
    }

    int choice(int s, int d) {
        if (!world.man(s) || !world.act(d)) return BAD;
        return world.choice(s, world.acts.get(d)).orElse(NONE);
    }

    int rounds(int d, int n) {
        if (!world.act(d) || !in(n, 1, 40)) return BAD;
        Act a = world.acts.get(d);
        int were = a.sayings;
        for (int i = 0; i < n; i++) world.round(a);
        return a.sayings - were;
    }

    // ---- what comes out

    int fewest(int d, int what) {
        if (!world.act(d) || !in(what, 0, 1)) return BAD;
        int set = world.fewest(world.acts.get(d));
        return set == NONE ? NONE : what == 1 ? set : Integer.bitCount(set);
    }

    int silent() {
        TreeSet<Integer> all = world.everyone();
        world.acts.forEach(a -> all.retainAll(a.left));
        return bits(all);
    }

    int meant(int d) {
        if (!world.act(d)) return BAD;
        TreeSet<Integer> left = new TreeSet<>(world.acts.get(d).left);
        TreeSet<Integer> gone = world.everyone();
        gone.removeAll(left);
        left.removeIf(p -> gone.isEmpty() || p > gone.last());
        return bits(left);
    }

    int proved(int d) {
        if (!world.act(d)) return BAD;
        Act a = world.acts.get(d);
        TreeSet<Integer> left = new TreeSet<>(a.left);
        for (int p : world.everyone()) {
            if (world.men.get(p).away.contains(a.hour)) left.removeAll(world.goers(p));
        }
        return bits(left);
    }

    long falls(int p, int part) {
        if (!world.man(p) || !in(part, 0, 1)) return BAD;
        return world.falls(p)[part].longValueExact();
    }

    int most() {
        int best = NONE;
        for (int p : world.everyone()) {
            if (best == NONE) {
                best = p;
                continue;
            }
            BigInteger[] mine = world.falls(p);
            BigInteger[] its = world.falls(best);
            if (mine[0].multiply(its[1]).compareTo(its[0].multiply(mine[1])) > 0) best = p;
        }
        return best;
    }

    // ---- texts

    int feed(int a, int b, int c) {
        if (tape.length() + 12 > 96) return FULL;
        byte[] bytes = java.nio.ByteBuffer.allocate(12).putInt(a).putInt(b).putInt(c).array();
        tape += new String(bytes, StandardCharsets.ISO_8859_1);
        return tape.length();
    }

    int trim(int n) {
        if (!in(n, 0, tape.length())) return BAD;
        tape = tape.substring(0, n);
        return n;
    }

    private static final List<String> KEYS = List.of("may", "cost", "bold");
    private static final List<String> NAMES = List.of("spw", "lwn", "bsn");

    int text() {
        String read = tape;
        tape = "";
        List<String> words = new ArrayList<>();
        int fault = fault(read, words);
        if (fault >= 0) return -100 - fault;
        if (world.laws.size() == 14) return FULL;
        world.laws.add(new Law(KEYS.indexOf(words.get(0)), List.copyOf(words.subList(1, words.size()))));
        return world.laws.size() - 1;
    }

    private static final java.util.regex.Pattern WORD = java.util.regex.Pattern.compile("[a-z]+|[0-9]+|[^ ]",
            java.util.regex.Pattern.DOTALL);

    /** Goes from state to state with a row of what is open: ( and ! and, in each (, whether it had a test. */
    private static int fault(String read, List<String> words) {
        java.util.regex.Matcher m = WORD.matcher(read);
        StringBuilder open = new StringBuilder();
        boolean[] tested = new boolean[10];
        int deep = 0;
        boolean wantsPiece = true;
        int behind = -1;
        while (m.find()) {
            String w = m.group();
            char c = w.charAt(0);
            boolean word = w.matches("[a-z]+|[0-9]+");
            if (word && m.start() == behind) return m.start();
            behind = word ? m.end() : -1;
            if (words.isEmpty()) {
                if (!KEYS.contains(w)) return m.start();
            } else if (wantsPiece && (c == '(' || c == '!')) {
                if (open.chars().filter(o -> o == c).count() == 8) return m.start();
                open.append(c);
                if (c == '(') tested[++deep] = false;
            } else if (wantsPiece) {
                boolean number = w.matches("[0-9]{1,4}");
                boolean name = w.matches("[a-z]") && NAMES.get(KEYS.indexOf(words.get(0))).contains(w);
                if (!number && !name) return m.start();
                wantsPiece = false;
                closeNots(open);
            } else if (c == ')' && deep > 0) {
                deep--;
                open.setLength(open.length() - 1);
                closeNots(open);
            } else if ("&|".indexOf(c) >= 0) {
                tested[deep] = false;
                wantsPiece = true;
            } else if ("<=>".indexOf(c) >= 0 && !tested[deep]) {
                tested[deep] = true;
                wantsPiece = true;
            } else if ("+-*/".indexOf(c) >= 0) {
                wantsPiece = true;
            } else {
                return m.start();
            }
            words.add(w);
        }
        return words.isEmpty() || wantsPiece || deep > 0 ? read.length() : -1;
    }

    private static void closeNots(StringBuilder open) {
        while (open.length() > 0 && open.charAt(open.length() - 1) == '!') open.setLength(open.length() - 1);
    }

    int textTold(int t, int what) {
        if (!in(t, 0, world.laws.size() - 1) || !in(what, 0, 1)) return BAD;
        return what == 0 ? world.laws.get(t).key : world.laws.get(t).pieces();
    }

    int why(int key) {
        if (!in(key, 0, 2)) return BAD;
        return world.law(key).map(l -> lastOf(l)).orElse(NONE);
    }

    private int lastOf(Law law) {
        for (int i = world.laws.size() - 1; i >= 0; i--) {
            if (world.laws.get(i) == law) return i;
        }
        return NONE;
    }

    private static int value(Law law, int... names) {
        return value(law.words, NAMES.get(law.key), names);
    }

    /** Splits at the last of the loosest signs outside all ( ), and so on down. */
    private static int value(List<String> e, String letters, int[] names) {
        for (String signs : List.of("|", "&", "<=>", "+-", "*/")) {
            int deep = 0;
            for (int i = e.size() - 1; i > 0; i--) {
                String w = e.get(i);
                deep += w.equals(")") ? 1 : w.equals("(") ? -1 : 0;
                if (deep == 0 && signs.contains(w)) {
                    int left = value(e.subList(0, i), letters, names);
                    return joined(w, left, value(e.subList(i + 1, e.size()), letters, names));
                }
            }
        }
        String first = e.get(0);
        if (first.equals("!")) return value(e.subList(1, e.size()), letters, names) == 0 ? 1 : 0;
        if (first.equals("(")) return value(e.subList(1, e.size() - 1), letters, names);
        return Character.isDigit(first.charAt(0)) ? Integer.parseInt(first) : names[letters.indexOf(first)];
    }

    private static int joined(String sign, int a, int b) {
        switch (sign) {
            case "|": return a == 0 && b == 0 ? 0 : 1;
            case "&": return a == 0 || b == 0 ? 0 : 1;
            case "<": return Integer.compare(a, b) == -1 ? 1 : 0;
            case "=": return Integer.compare(a, b) == 0 ? 1 : 0;
            case ">": return Integer.compare(a, b) == 1 ? 1 : 0;
            case "+": return (int) ((long) a + b);
            case "-": return (int) ((long) a - b);
            case "*": return (int) ((long) a * b);
            default: return b == 0 ? 0 : (int) ((long) a / b);
        }
    }

    // ---- sheets, slots

    int sheet(int s, int sort, int n) {
        if (!in(s, 0, 3) || !in(sort, -1, 1)) return BAD;
        if (sort == -1) {
            rows[s] = null;
            return 0;
        }
        if (n > 24) return BAD;
        if (n < 0) return SIZE;
        rows[s] = new float[n];
        sorts[s] = sort;
        return n;
    }

    int mark(int s, int place, int v) {
        if (!in(s, 0, 3)) return BAD;
        if (rows[s] == null) return NOTHING;
        if (!in(place, 0, rows[s].length - 1)) return INDEX;
        if (sorts[s] == 0 && v == NONE) return KIND;
        if (sorts[s] == 1 && v != NONE && Math.abs((long) v) > 99999) return BAD;
        rows[s][place] = sorts[s] == 0 ? (short) v : v == NONE ? Float.NaN : v;
        return 1;
    }

    int pour(int s) {
        if (!in(s, 0, 3)) return BAD;
        if (rows[s] == null) return NOTHING;
        int otherwise = 0;
        for (int p = 0; p < Math.min(world.men.size(), rows[s].length); p++) {
            float f = rows[s][p];
            if (Float.isNaN(f)) continue;
            int bold = f > 100 ? 100 : f < 0 ? 0 : (int) f;
            if (bold != world.men.get(p).bold) otherwise++;
            world.men.get(p).bold = bold;
        }
        return otherwise;
    }

    int reads(int s) {
        if (!in(s, 0, 3)) return BAD;
        if (rows[s] == null) return NOTHING;
        for (int i = 0; i < rows[s].length; i++) {
            boolean number = !Float.isNaN(rows[s][i]);
            if (number && (i >= world.acts.size() || world.acts.get(i).left.size() != rows[s][i])) return i;
        }
        return NONE;
    }

    int copy(int from, int place, int to, int at, int many) {
        if (!in(from, 0, 3) || !in(to, 0, 3)) return BAD;
        if (rows[from] == null || rows[to] == null) return NOTHING;
        if (sorts[from] != sorts[to]) return KIND;
        try {
            System.arraycopy(rows[from], place, rows[to], at, many);
        } catch (IndexOutOfBoundsException e) {
            return INDEX;
        }
        return many;
    }

    int lay(int slot, int thing, int k) {
        if (!in(slot, 0, 4) || !in(thing, 0, 3)) return BAD;
        if (thing == 1 && !world.man(k) || thing == 2 && !in(k, 0, 3)) return BAD;
        if (thing == 2 && rows[k] == null) return NOTHING;
        Object held = slots[slot];
        slots[slot] = thing == 0 ? null : thing == 1 ? world.men.get(k).same()
                : thing == 2 ? rows[k].clone() : Integer.valueOf(k);
        return held == null ? 0 : held instanceof Man ? 1 : held instanceof float[] ? 2 : 3;
    }

    int ask(int slot, int kind) {
        if (!in(slot, 0, 4) || !in(kind, 0, 5)) return BAD;
        if (slots[slot] == null) return NOTHING;
        return slots[slot] instanceof Man m && under(m.kind, kind) ? worth(m.kind, m.bold) : KIND;
    }

    int item(int slot, int place) {
        if (!in(slot, 0, 4)) return BAD;
        if (slots[slot] == null) return NOTHING;
        if (!(slots[slot] instanceof float[] row)) return KIND;
        if (!in(place, 0, row.length - 1)) return INDEX;
        return Float.isNaN(row[place]) ? KIND : (int) row[place];
    }

    int rest(int slot, int n) {
        if (!in(slot, 0, 4)) return BAD;
        if (slots[slot] == null) return NOTHING;
        if (!(slots[slot] instanceof Integer k)) return KIND;
        return n == 0 ? NO : (int) ((long) k - (long) k / n * n);
    }

    // ---- rows, images

    int tell(int v) {
        if (waiting.size() == 60) return FULL;
        waiting.add(v);
        return waiting.size();
    }

    int check(int d, int n) {
        List<Integer> told = List.copyOf(waiting);
        waiting.clear();
        if (!in(n, 1, 30)) return BAD;
        if (image == null) return NO;
        if (!image.act(d)) return BAD;
        World w = image.same();
        List<Integer> right = new ArrayList<>();
        for (int i = 0; i < n; i++) {
            w.round(w.acts.get(d));
            right.addAll(Arrays.asList(w.acts.get(d).left.size(), w.acts.get(d).lies));
        }
        if (told.equals(right)) return 0;
        int same = 0;
        while (same < told.size() && same < right.size() && told.get(same).equals(right.get(same))) same++;
        return 1 + same;
    }

    int keep() {
        image = world.same();
        return world.men.size();
    }

    int back() {
        if (image == null) return NO;
        world = image.same();
        return world.men.size();
    }

    int count(int what) {
        if (!in(what, 0, 8)) return BAD;
        int[] all = {world.men.size(), world.acts.size(), world.stop, world.acts.stream().mapToInt(a -> a.sayings).sum(),
            world.acts.stream().mapToInt(a -> a.lies).sum(), world.laws.size(), waiting.size(), tape.length(), world.z};
        return all[what];
    }
}
