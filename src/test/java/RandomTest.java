import java.lang.reflect.Method;
import java.util.ArrayList;
import java.util.HashMap;
import java.util.List;
import java.util.Map;
import java.util.Random;

/** Long runs of calls by lot, always the same ones, on the class and on the Model: all answers must be alike. */
public final class RandomTest {
    /** A call's name, how often it comes, and what each argument is like: a letter each. */
    private static final String[] CALLS = {
        "person 6 KB", "told 6 PX", "as 2 PK", "turns 2 PK", "bolder 2 PB", "away 4 PHV", "friend 4 PPV",
        "follow 4 PPV", "deal 1 N", "seed 1 I", "deed 4 OHW", "deedTold 6 DX", "again 2 D", "stop 3 T",
        "say 8 PDP", "choice 6 PD", "rounds 2 DN", "fewest 3 DV", "silent 1 ", "meant 2 D", "proved 2 D",
        "falls 3 PV", "most 1 ", "feed 1 III", "trim 1 N", "text 1 ", "textTold 2 NV", "why 2 T", "sheet 3 SQN",
        "mark 6 SFM", "pour 1 S", "reads 2 S", "copy 4 SFSFF", "lay 5 LTN", "ask 4 LK", "item 4 LF", "rest 3 LI",
        "tell 2 N", "check 1 DN", "keep 1 ", "back 1 ", "count 6 X"};

    private final Random lot;
    private final NeverSaid x = new NeverSaid();
    private final Model y = new Model();
    private final List<String> run = new ArrayList<>();
    private static final Map<String, Method[]> METHODS = new HashMap<>();
    private static final List<String> URN = new ArrayList<>();
    private static int wrong = 0;
    private static long answers = 0;

    private RandomTest(long seed) {
        lot = new Random(seed);
    }

    public static void main(String[] args) throws Exception {
        int runs = args.length > 0 ? Integer.parseInt(args[0]) : 1500;
        for (String call : CALLS) {
            String name = call.split(" ")[0];
            for (Method m : NeverSaid.class.getDeclaredMethods()) {
                if (m.getName().equals(name)) {
                    METHODS.put(name, new Method[] {m, Model.class.getDeclaredMethod(name, m.getParameterTypes())});
                }
            }
            for (int i = 0; i < Integer.parseInt(call.split(" ")[1]); i++) {
                URN.add(call);
            }
        }
        for (int seed = 0; seed < runs && wrong < 5; seed++) {
            new RandomTest(seed).play();
        }
        System.out.println(answers + " answers, " + wrong + " runs not as due");
        System.exit(wrong == 0 && METHODS.size() == CALLS.length ? 0 : 1);
    }

    private void play() throws Exception {
        boolean good = true;
        int people = 1 + lot.nextInt(12);
        for (int i = 0; i < people && good; i++) {
            good = call("person", lot.nextInt(6), lot.nextInt(101));
        }
        while (good && run.size() < 500) {
            int what = lot.nextInt(100);
            good = what == 0 ? rightRounds() : what < 6 ? text() : one();
        }
        if (!good) {
            wrong++;
            System.out.println("a run that is not as due: ");
            run.subList(Math.max(0, run.size() - 40), run.size()).forEach(System.out::println);
        }
    }

    private boolean call(String name, int... args) throws Exception {
        Object[] boxed = new Object[args.length];
        StringBuilder told = new StringBuilder(name);
        for (int i = 0; i < args.length; i++) {
            boxed[i] = args[i];
            told.append(i == 0 ? "(" : ", ").append(args[i]);
        }
        Object got = METHODS.get(name)[0].invoke(x, boxed);
        Object want = METHODS.get(name)[1].invoke(y, boxed);
        answers++;
        run.add(told + ") answered " + got + (got.equals(want) ? "" : ", due is " + want));
        return got.equals(want);
    }

    private boolean one() throws Exception {
        String call = URN.get(lot.nextInt(URN.size()));
        String[] parts = call.split(" ");
        String like = parts.length > 2 ? parts[2] : "";
        int[] args = new int[like.length()];
        for (int i = 0; i < args.length; i++) {
            args[i] = argument(like.charAt(i));
        }
        return call(parts[0], args);
    }

    private int argument(char like) {
        if (lot.nextInt(60) == 0) {
            int[] odd = {-1, Integer.MIN_VALUE, Integer.MAX_VALUE, 1000, NeverSaid.NONE, -2, 25, 32};
            return odd[lot.nextInt(odd.length)];
        }
        switch (like) {
            case 'P': return lot.nextInt(Math.min(13, x.count(0) + 1));
            case 'K': return lot.nextInt(25) == 0 ? 6 : lot.nextInt(6);
            case 'B': return lot.nextInt(4) == 0 ? 100 + lot.nextInt(2) : lot.nextInt(101);
            case 'H': return lot.nextInt(20) == 0 ? 24 : lot.nextInt(3);
            case 'V': return lot.nextInt(20) == 0 ? 2 : lot.nextInt(2);
            case 'D': return lot.nextInt(Math.max(1, x.count(1) + lot.nextInt(20) / 19));
            case 'O': return lot.nextInt(30) == 0 ? lot.nextInt(8192)
                    : 1 << lot.nextInt(x.count(0) + 1) | 1 << lot.nextInt(x.count(0) + 1);
            case 'W': return lot.nextInt(20) == 0 ? 100 : lot.nextInt(100);
            case 'X': return lot.nextInt(10);
            case 'T': return lot.nextInt(5);
            case 'N': return lot.nextInt(4) == 0 ? lot.nextInt(50) : lot.nextInt(14);
            case 'S': return lot.nextInt(30) == 0 ? 4 : lot.nextInt(4);
            case 'Q': return lot.nextInt(10) - 8 < 0 ? lot.nextInt(2) : lot.nextInt(4) - 1;
            case 'F': return lot.nextInt(6) == 0 ? lot.nextInt(27) : lot.nextInt(9);
            case 'M': return lot.nextInt(6) == 0 ? NeverSaid.NONE : lot.nextInt(8) == 0 ? lot.nextInt(250000) - 125000
                    : lot.nextInt(9) == 0 ? lot.nextInt(120) - 10 : lot.nextInt(13);
            case 'L': return lot.nextInt(30) == 0 ? 5 : lot.nextInt(5);
            default: return lot.nextInt(3) == 0 ? lot.nextInt(9) - 4 : lot.nextInt();
        }
    }

    /** Rounds that are played, told again from the image, and now and then with one number wrong, or none. */
    private boolean rightRounds() throws Exception {
        if (x.count(1) == 0) {
            return one();
        }
        boolean good = call("check", 0, 1) & call("keep");
        int deed = lot.nextInt(x.count(1));
        int n = 1 + lot.nextInt(lot.nextInt(4) == 0 ? 30 : 6);
        int numbers = 2 * n - (lot.nextInt(6) == 0 ? 1 + lot.nextInt(2) : 0);
        int off = lot.nextInt(3) == 0 ? lot.nextInt(2 * n) : -1;
        for (int i = 0; i < n; i++) {
            good &= call("rounds", deed, 1);
            int left = Integer.bitCount(x.deedTold(deed, 3));
            int[] two = {left, x.deedTold(deed, 5)};
            for (int k = 0; k < 2; k++) {
                if (2 * i + k < numbers) {
                    good &= call("tell", two[k] + (2 * i + k == off ? 1 : 0));
                }
            }
        }
        if (lot.nextInt(6) == 0) {
            good &= call("tell", 0);
        }
        good &= lot.nextBoolean() || call("back");
        return good & call("check", deed, n);
    }

    private boolean text() throws Exception {
        boolean good = call("trim", 0);
        int key = lot.nextInt(3);
        String[] keys = {"may", "cost", "bold"};
        StringBuilder text = new StringBuilder(keys[key]).append(' ');
        expression(text, key, 3 + lot.nextInt(3));
        if (lot.nextInt(4) == 0) {
            spoil(text);
        }
        text.setLength(Math.min(96, text.length()));
        for (int i = 0; i < text.length(); i += 12) {
            int[] numbers = new int[3];
            for (int k = 0; k < 12; k++) {
                int c = i + k < text.length() ? text.charAt(i + k) : 0;
                numbers[k / 4] = numbers[k / 4] << 8 | c;
            }
            good &= call("feed", numbers[0], numbers[1], numbers[2]);
        }
        good &= call("trim", text.length()) & call("text");
        run.set(run.size() - 1, run.get(run.size() - 1) + " for '" + text + "'");
        for (int k = 0; k < 3 && x.count(5) > 0; k++) {
            good &= call("why", k) & call("textTold", x.count(5) - 1, k);
        }
        return good;
    }

    private void expression(StringBuilder text, int key, int deep) {
        blank(text);
        int what = lot.nextInt(10);
        if (deep == 0 || what < 2) {
            String[] names = {"spw", "lwn", "bsn"};
            text.append(lot.nextBoolean() ? "" + names[key].charAt(lot.nextInt(3))
                    : "" + lot.nextInt(lot.nextInt(3) == 0 ? 10001 : 120));
        } else if (what < 4) {
            text.append('!');
            expression(text, key, deep - 1);
        } else if (what < 5) {
            text.append('(');
            expression(text, key, deep - 1);
            text.append(')');
        } else {
            expression(text, key, deep - 1);
            text.append("|&<=>+-*/".charAt(lot.nextInt(9)));
            expression(text, key, deep - 1);
        }
        blank(text);
    }

    private void blank(StringBuilder text) {
        if (lot.nextInt(8) == 0) {
            text.append(' ');
        }
    }

    private void spoil(StringBuilder text) {
        int place = lot.nextInt(text.length());
        switch (lot.nextInt(5)) {
            case 0: text.setCharAt(place, (char) lot.nextInt(256)); break;
            case 1: text.deleteCharAt(place); break;
            case 2: text.insert(place, "()!|&<=>+-*/ 019spwlnbmay".charAt(lot.nextInt(25))); break;
            case 3: text.insert(place, "!".repeat(lot.nextInt(10))); break;
            default: text.insert(place, "(".repeat(lot.nextInt(10))).append(")".repeat(lot.nextInt(10)));
        }
    }
}
