/** Promises 25 to 29 and the terms that they stand on, at their bounds: a sentence of the document for each test. */
public final class TextsEdgesTest {
    private static final int BAD = NeverSaid.BAD, FULL = NeverSaid.FULL, NONE = NeverSaid.NONE;
    private static final int MIN = Integer.MIN_VALUE, MAX = Integer.MAX_VALUE;
    private static final int RIGHT = -1;
    private static final String[] KEYS = {"may", "cost", "bold"};
    private static final String[] NAMES = {"spw", "lwn", "bsn"};
    private static final String JOINING = "|&<=>+-*/";
    private static final Due due = new Due();
    private static final Refused refused = new Refused(due);

    public static void main(String[] args) {
        feedUpTo96();
        feedHighestFirst();
        feedRefused();
        trimBounds();
        trimKeepsTheFirst();
        trimRefused();
        usedUpWhateverItAnswers();
        fourteenAtMost();
        faultAheadOfFull();
        refusedTexts();
        keysAlone();
        namesOfEachKey();
        oneToFourDigits();
        anyByteAtEachPlace();
        theEndTooSoon();
        blanks();
        wordRightBehindAnother();
        eightOpenAtMost();
        eightNotsAtMost();
        eachByItself();
        oneTestAtMost();
        ninetySixBytes();
        tests();
        trueIsWhatIsNotZero();
        divisions();
        wrapping();
        loosestFirst();
        namesOfCost();
        namesOfBold();
        textToldBounds();
        numbersAndNames();
        whyBounds();
        toldLastCounts();
        due.end();
    }

    /** A text is read on a new object: the place of its fault is due, or RIGHT. */
    private static void read(String text, int fault) {
        NeverSaid x = new NeverSaid();
        due.is("text of '" + text + "'", Due.text(x, text), fault == RIGHT ? 0 : -100 - fault);
        due.is("texts with '" + text + "'", x.count(5), fault == RIGHT ? 1 : 0);
        due.is("tape behind '" + text + "'", x.count(7), 0);
    }

    /** "THE TAPE (96 bytes at most ..)"; "Twelve bytes come to THE TAPE ..: how many it has. FULL". */
    private static void feedUpTo96() {
        for (int had = 0; had <= 96; had++) {
            NeverSaid x = new NeverSaid();
            for (int i = 0; i < 8; i++) {
                due.is("feed " + i, x.feed(0, 0, 0), 12 * i + 12);
            }
            x.trim(had);
            due.is("feed behind " + had, x.feed(-1, 0, 1), had <= 84 ? had + 12 : FULL);
            due.is("bytes then", x.count(7), had <= 84 ? had + 12 : had);
        }
    }

    /** "the highest of each number first": a sign at each of the twelve places, all others being blank. */
    private static void feedHighestFirst() {
        for (int sign : new int[] {'?', 0, 127, 128, 255}) {
            for (int place = 0; place < 12; place++) {
                int[] n = {0x20202020, 0x20202020, 0x20202020};
                int shift = 24 - place % 4 * 8;
                n[place / 4] = n[place / 4] & ~(255 << shift) | sign << shift;
                NeverSaid x = new NeverSaid();
                x.feed(n[0], n[1], n[2]);
                due.is("sign " + sign + " at " + place, x.text(), -100 - place);
            }
        }
        NeverSaid x = new NeverSaid();
        x.feed(0x636F7374, 0x20312B77, 0x2A6E2D39);
        due.is("'cost 1+w*n-9'", x.text(), 0);
        due.is("numbers and names", x.textTold(0, 1), 4);
    }

    /** "FULL: it would have more than 96.": nothing is otherwise then. */
    private static void feedRefused() {
        refused.is("feed behind 96", Busy::full, x -> x.feed(1, 2, 3), FULL);
        refused.is("feed behind 85", () -> withTape(85), x -> x.feed(1, 2, 3), FULL);
    }

    private static NeverSaid withTape(int bytes) {
        NeverSaid x = Busy.hall();
        x.trim(0);
        Due.write(x, "cost 1" + "+1".repeat(45));
        x.trim(bytes);
        return x;
    }

    /** "THE TAPE keeps its first n bytes: n. BAD (n above how many it has, too)." */
    private static void trimBounds() {
        for (int had : new int[] {0, 1, 12, 95, 96}) {
            for (int n : new int[] {-1, 0, 1, had - 1, had, had + 1, 96, 97, MIN, MAX}) {
                NeverSaid x = withTape(had);
                boolean good = n >= 0 && n <= had;
                due.is("trim(" + n + ") of " + had, x.trim(n), good ? n : BAD);
                due.is("bytes then", x.count(7), good ? n : had);
            }
        }
        due.is("trim(0) of a new object", new NeverSaid().trim(0), 0);
        due.is("trim(1) of a new object", new NeverSaid().trim(1), BAD);
    }

    /** "keeps its first n bytes": what comes later stands behind them. */
    private static void trimKeepsTheFirst() {
        NeverSaid x = new NeverSaid();
        Due.write(x, "cost 12345678");
        x.trim(9);
        due.is("'cost 1234'", x.text(), 0);
        Due.write(x, "may 1????");
        x.trim(5);
        Due.write(x, "+1");
        due.is("'may 1+1'", x.text(), 1);
        due.is("its two numbers", x.textTold(1, 1), 2);
        Due.write(x, "may 1");
        x.trim(0);
        due.is("nothing", x.text(), -100);
    }

    private static void trimRefused() {
        refused.each("trim(n)", Busy::hall, (x, v) -> x.trim(v), BAD, -1, 15, 96, 97, MIN, MAX);
        refused.each("full: trim(n)", Busy::full, (x, v) -> x.trim(v), BAD, -1, 97);
        refused.is("trim to what there is", Busy::hall, x -> x.trim(14), 14);
    }

    /** "an act that reads it uses it up, whatever it answers": a number, a FAULT, FULL. */
    private static void usedUpWhateverItAnswers() {
        NeverSaid x = new NeverSaid();
        for (int i = 0; i < 14; i++) {
            due.is("a text", Due.text(x, "may 1"), i);
            due.is("used up", x.count(7), 0);
            due.is("nothing is there to read", x.text(), -100);
            due.is("a fault", Due.text(x, "may (1"), -106);
            due.is("used up by a fault", x.count(7), 0);
        }
        due.is("full", Due.text(x, "may 1"), FULL);
        due.is("used up though full", x.count(7), 0);
        due.is("from the start again", x.feed(0, 0, 0), 12);
    }

    /** "TEXTS, 14 at most, numbered from 0"; "its number .. FULL." */
    private static void fourteenAtMost() {
        NeverSaid x = new NeverSaid();
        for (int i = 0; i < 14; i++) {
            due.is("none has number " + i, x.textTold(i, 0), BAD);
            due.is("number " + i, Due.text(x, KEYS[i % 3] + " 1" + "+1".repeat(i)), i);
            due.is("how many with " + i, x.count(5), i + 1);
        }
        for (int i = 0; i < 14; i++) {
            due.is("key of " + i, x.textTold(i, 0), i % 3);
            due.is("pieces of " + i, x.textTold(i, 1), i + 1);
        }
        due.is("a 15th", Due.text(x, "may 1"), FULL);
        due.is("14 still", x.count(5), 14);
        due.is("no 15th", x.textTold(14, 0), BAD);
    }

    /** "-100 less the place of its FAULT; FULL.": of several the one that stands first. */
    private static void faultAheadOfFull() {
        NeverSaid x = Busy.full();
        due.is("full", x.text(), FULL);
        due.is("nothing, and full", x.text(), -100);
        due.is("a fault, and full", Due.text(x, "may 1 1"), -106);
        due.is("right, and full", Due.text(x, "may 1"), FULL);
    }

    /** A refused TEXT changes nothing but THE TAPE. */
    private static void refusedTexts() {
        refused.isThen("text() when full", Busy::full, NeverSaid::text, FULL, () -> trimmed(Busy.full()));
        String[] texts = {"", "cost", "may 0 0", "bold 0)", "cost 0+p", "may 00000"};
        int[] faults = {0, 4, 6, 6, 7, 4};
        for (int i = 0; i < texts.length; i++) {
            String text = texts[i];
            refused.isThen("text() of '" + text + "'", () -> taped(text), NeverSaid::text, -100 - faults[i],
                    () -> trimmed(Busy.hall()));
        }
    }

    private static NeverSaid trimmed(NeverSaid x) {
        x.trim(0);
        return x;
    }

    private static NeverSaid taped(String text) {
        NeverSaid x = trimmed(Busy.hall());
        Due.write(x, text);
        return x;
    }

    /** "KEY: may | cost | bold", each the whole word. */
    private static void keysAlone() {
        for (String key : KEYS) {
            read(key + " 1", RIGHT);
            read(key, key.length());
            for (int end = 1; end < key.length(); end++) {
                read(key.substring(0, end), 0);
                read(key.substring(0, end) + " 1", 0);
                read(key.substring(0, end) + " " + key.substring(end) + " 1", 0);
            }
            for (int i = 0; i < key.length(); i++) {
                read(key.substring(0, i) + "x" + key.substring(i + 1) + " 1", 0);
            }
            read(key + "s 1", 0);
            read("a" + key + " 1", 0);
            read(key.toUpperCase(java.util.Locale.ROOT) + " 1", 0);
            read(key + " " + key + " 1", key.length() + 1);
            read("1 " + key + " 1", 0);
            read("(" + key + " 1)", 0);
        }
    }

    /** "NAMES, each one letter: of may s, p .., w; of cost l .., w, n; of bold b, s, n". */
    private static void namesOfEachKey() {
        for (int key = 0; key < 3; key++) {
            int place = KEYS[key].length() + 1;
            for (char c = 'a'; c <= 'z'; c++) {
                boolean name = NAMES[key].indexOf(c) >= 0;
                read(KEYS[key] + " " + c, name ? RIGHT : place);
                read(KEYS[key] + " 1+" + c, name ? RIGHT : place + 2);
                read(KEYS[key] + " " + c + c, place);
                read(KEYS[key] + " " + Character.toUpperCase(c), place);
            }
        }
    }

    /** "NUMBER (1 to 4 digits)"; "FAULT: .. a NUMBER of more than 4 digits". */
    private static void oneToFourDigits() {
        String[] good = {"0", "9", "00", "99", "000", "999", "0000", "9999", "0001"};
        for (String digits : good) {
            read("may " + digits, RIGHT);
            read("cost w+" + digits + "*n", RIGHT);
            gives(digits, Integer.parseInt(digits));
        }
        for (String digits : new String[] {"00000", "00001", "10000", "12345", "99999", "1".repeat(40)}) {
            read("may " + digits, 4);
            read("may (" + digits + ")", 5);
            read("may 1+" + digits, 6);
            read("may 1+ " + digits + ")", 7);
            read("may 1 " + digits, 6);
        }
    }

    /** "any other byte is a sign by itself": each byte at each kind of place. */
    private static void anyByteAtEachPlace() {
        for (char c = 0; c < 256; c++) {
            boolean letter = c >= 'a' && c <= 'z';
            boolean digit = c >= '0' && c <= '9';
            boolean joins = JOINING.indexOf(c) >= 0;
            boolean blank = c == ' ';
            boolean opens = c == '(' || c == '!';
            read(c + "may 1", blank ? RIGHT : 0);
            read("may" + c + "1", blank || c == '!' ? RIGHT : c == '(' ? 5 : letter ? 0 : 3);
            read("may " + c, digit || NAMES[0].indexOf(c) >= 0 ? RIGHT : opens || blank ? 5 : 4);
            read("may 1" + c, digit || blank ? RIGHT : joins ? 6 : 5);
            read("may 1" + c + "2", digit || joins ? RIGHT : blank ? 6 : 5);
            read("may (1" + c, c == ')' ? RIGHT : digit || blank || joins ? 7 : 6);
            read("may (1)" + c, blank ? RIGHT : joins ? 8 : 7);
        }
    }

    /** "the end (the place behind the last byte), if it comes too soon": each beginning of a text. */
    private static void theEndTooSoon() {
        String text = "may (s+12)*!p<w&2|3";
        java.util.Set<Integer> right = java.util.Set.of(10, 13, 15, 17, 19);
        for (int length = 0; length <= text.length(); length++) {
            boolean halfKey = length == 1 || length == 2;
            read(text.substring(0, length), right.contains(length) ? RIGHT : halfKey ? 0 : length);
            read(text.substring(0, length) + "  ", right.contains(length) ? RIGHT : halfKey ? 0 : length + 2);
        }
    }

    /** "Between words and signs, and at the ends, there may be blanks (byte 32)": none, one, several; no other byte. */
    private static void blanks() {
        String[] words = {"cost", "(", "l", "+", "12", ")", "*", "!", "w", "<", "n", "&", "3", "|", "4"};
        for (String between : new String[] {" ", "  ", "   "}) {
            String spaced = between + String.join(between, words) + between;
            read(spaced, RIGHT);
        }
        read("cost(l+12)*!w<n&3|4", RIGHT);
        read(" ".repeat(90) + "may 11", RIGHT);
        read("may" + " ".repeat(90) + "1", RIGHT);
        read("may 1" + " ".repeat(91), RIGHT);
        read(" ".repeat(96), 96);
        read(" ", 1);
        read("may 1 2", 6);
        read("may 1  s", 7);
        for (char c : new char[] {0, 9, 10, 13, 31, 33 + 94, 160}) {
            read("may" + c + "1", 3);
            read("may 1" + c, 5);
        }
    }

    /** "a word right behind another one needs one": the FAULT is that word's first byte. */
    private static void wordRightBehindAnother() {
        read("may1", 3);
        read("may1+", 3);
        read("may12345", 3);
        read("cost9999", 4);
        read("may 1s", 5);
        read("may s1", 5);
        read("may 1234s", 8);
        read("may 1+s1", 7);
        read("may (1s)", 6);
        read("may 12345s", 4);
        read("may x1", 4);
        read("may s 1", 6);
        read("may(1)s", 6);
        read("may(1)2", 6);
        read("may!1", RIGHT);
        read("may(s)", RIGHT);
    }

    /** "the ninth ( that would be open within others (the outermost counted)". */
    private static void eightOpenAtMost() {
        for (int n = 1; n <= 10; n++) {
            read("may " + "(".repeat(n) + "1" + ")".repeat(n), n <= 8 ? RIGHT : 12);
            read("may " + "(".repeat(n), n <= 8 ? 4 + n : 12);
            read("may " + "1*(".repeat(n) + "1" + ")".repeat(n), n <= 8 ? RIGHT : 6 + 3 * 8);
        }
        String eight = "(".repeat(8) + "1" + ")".repeat(8);
        read("may " + eight + "+" + eight + "+" + eight, RIGHT);
        read("may (" + "(".repeat(7) + "1" + ")".repeat(7) + "+" + "(".repeat(7) + "1" + ")".repeat(8), RIGHT);
        read("may (" + "(".repeat(7) + "1" + ")".repeat(7) + "+" + eight + ")", 4 + 1 + 15 + 1 + 7);
        read("may " + eight + ")", 21);
    }

    /** "the ninth ! likewise (open till its PIECE ends)". */
    private static void eightNotsAtMost() {
        for (int n = 1; n <= 10; n++) {
            read("may " + "!".repeat(n) + "1", n <= 8 ? RIGHT : 12);
            read("may " + "!".repeat(n), n <= 8 ? 4 + n : 12);
            read("may " + "! ".repeat(n) + "s", n <= 8 ? RIGHT : 4 + 2 * 8);
        }
        String eight = "!".repeat(8) + "1";
        read("may " + eight + "+" + eight + "|" + eight, RIGHT);
        read("may !(!1+" + "!".repeat(7) + "1)", RIGHT);
        read("may !(!1+" + eight + ")", 16);
        read("may !(1)+" + eight, RIGHT);
        read("may " + "!".repeat(7) + "(!1+!1)", RIGHT);
        read("may " + "!".repeat(8) + "(1+!1)", 4 + 8 + 3);
        read("may " + "!".repeat(8) + "(1)+!1", RIGHT);
    }

    /** "each by itself": eight of both, and the ninth of either. */
    private static void eachByItself() {
        String both = "!(".repeat(8);
        read("may " + both + "1" + ")".repeat(8), RIGHT);
        read("may " + both + "!1", 20);
        read("may " + both + "(1", 20);
        read("may " + "(".repeat(8) + "!".repeat(8) + "1" + ")".repeat(8), RIGHT);
        read("may " + "!".repeat(8) + "(".repeat(8) + "1" + ")".repeat(8), RIGHT);
    }

    /** "TEST: SUM [ (< | = | >) SUM ]": one at most, in each TEST. */
    private static void oneTestAtMost() {
        for (char one : "<=>".toCharArray()) {
            for (char other : "<=>".toCharArray()) {
                read("may 1" + one + "2" + other + "3", 7);
                read("may 1" + one + "2+3" + other + "4", 9);
                read("may (1" + one + "2" + other + "3)", 8);
                read("may 1" + one + other + "2", 6);
                read("may 1" + one + "2&3" + other + "4", RIGHT);
                read("may 1" + one + "2|3" + other + "4", RIGHT);
                read("may (1" + one + "2)" + other + "3", RIGHT);
                read("may 1" + one + "(2" + other + "3)", RIGHT);
                read("may !(1" + one + "2)" + other + "3", RIGHT);
            }
        }
    }

    /** "THE TAPE (96 bytes at most ..)": the last of its places is read, too. */
    private static void ninetySixBytes() {
        String ones = "may 1" + "+1".repeat(45);
        read(ones, RIGHT);
        read(ones + " ", RIGHT);
        read(ones + "+", 96);
        read(ones + "?", 95);
        read(ones + "s", 95);
        read(ones + "2", RIGHT);
        read("may " + "!".repeat(92), 12);
        read("1".repeat(96), 0);
        read("a".repeat(96), 0);
        read("?".repeat(96), 0);
        NeverSaid x = new NeverSaid();
        Due.text(x, ones + "2");
        due.is("46 numbers", x.textTold(0, 1), 46);
        gives("1" + "+1".repeat(44) + "0", 54);
        gives("1" + "+(1".repeat(8) + ")".repeat(8), 9);
    }

    /** What a text of cost gives, with 1 lie, weight 5 and 3 left. */
    private static void gives(String text, int want) {
        NeverSaid x = Busy.speakers(4);
        x.deed(1, 0, 5);
        x.say(0, 0, 0);
        due.is("text", Due.text(x, "cost " + text), 0);
        due.is("cost " + text, x.deedTold(0, 6), want);
    }

    /** "tests .. give 1 or 0", beside the bound on either side. */
    private static void tests() {
        int[] numbers = {4, 5, 6};
        for (int n : numbers) {
            gives(n + "<5", n < 5 ? 1 : 0);
            gives(n + "=5", n == 5 ? 1 : 0);
            gives(n + ">5", n > 5 ? 1 : 0);
            gives("0-" + n + "<0-5", n > 5 ? 1 : 0);
            gives("0-" + n + ">0-5", n < 5 ? 1 : 0);
            gives("7+(" + n + "<5)", n < 5 ? 8 : 7);
            gives("7+(" + n + "=5)", n == 5 ? 8 : 7);
            gives("7+(" + n + ">5)", n > 5 ? 8 : 7);
        }
        gives("0-1<0", 1);
        gives("0<0", 0);
        gives("0>0-1", 1);
    }

    /** "& | ! give 1 or 0 (what is not 0 is true ..)". */
    private static void trueIsWhatIsNotZero() {
        String[] all = {"0", "1", "2", "4", "(0-1)", "(2048*1024*1024)", "(256*256*256*256)"};
        boolean[] is = {false, true, true, true, true, true, false};
        for (int i = 0; i < all.length; i++) {
            gives("7+!" + all[i], is[i] ? 7 : 8);
            gives("7+!!" + all[i], is[i] ? 8 : 7);
            for (int k = 0; k < all.length; k++) {
                gives("7+(" + all[i] + "&" + all[k] + ")", is[i] && is[k] ? 8 : 7);
                gives("7+(" + all[i] + "|" + all[k] + ")", is[i] || is[k] ? 8 : 7);
            }
        }
    }

    /** "/ cuts towards 0"; "/ is 0 by 0". */
    private static void divisions() {
        gives("9998/9999", 0);
        gives("9999/9999", 1);
        gives("9999/9998", 1);
        gives("7/2", 3);
        gives("10+(0-7)/2", 7);
        gives("10+7/(0-2)", 7);
        gives("10+(0-7)/(0-2)", 13);
        gives("10+(0-1)/2", 10);
        gives("5/0", 0);
        gives("0/0", 0);
        gives("10+(0-5)/0", 10);
        gives("5/(w-5)+1", 1);
        gives("5/0*3+2", 2);
        gives("5/1", 5);
        gives("10+5/(0-1)", 5);
    }

    /** "Ints wrap": from the greatest to the least and back; tests are not worked out by what is between. */
    private static void wrapping() {
        String least = "2048*1024*1024";
        gives(least + "<0", 1);
        gives(least + "-1>0", 1);
        gives(least + "-1+1<0", 1);
        gives(least + "+" + least + "=0", 1);
        gives("(" + least + "-1)*2=0-2", 1);
        gives(least + "/(0-1)=" + least, 1);
        gives("0-" + least + "=" + least, 1);
        gives(least + "<1", 1);
        gives("1>" + least, 1);
        gives(least + "-1>0-1", 1);
        gives("0-1<" + least + "-1", 1);
        gives(least + ">" + least + "-1", 0);
        gives("9999*9999*9999/9999*0+1", 1);
    }

    /** "E, the loosest first: OR .. AND .. TEST .. SUM .. TERM .. PIECE"; of one level from the left. */
    private static void loosestFirst() {
        gives("1|1&0", 1);
        gives("0&1|1", 1);
        gives("0=0&0", 0);
        gives("0&0=0", 0);
        gives("1|0=0", 1);
        gives("2>1+1", 0);
        gives("1+1>2", 0);
        gives("1+2*3", 7);
        gives("2*3+1", 7);
        gives("9-4/2", 7);
        gives("8-4+2", 6);
        gives("8-4-2", 2);
        gives("8/4*2", 4);
        gives("16/4/2", 2);
        gives("7/2*2", 6);
        gives("7*2/2", 7);
        gives("!0*5", 5);
        gives("!1+1", 1);
        gives("!0=1", 1);
        gives("!(1&0)", 1);
        gives("!1&0", 0);
        gives("(1|1)&0", 0);
        gives("2*(3+1)", 8);
        gives("8-(4-2)", 6);
        gives("(2>1)+1", 2);
    }

    /** "of cost l LIES, w WEIGHT, n how many are LEFT": with the least and the greatest of each. */
    private static void namesOfCost() {
        for (int weight : new int[] {0, 99}) {
            NeverSaid x = Busy.speakers(12);
            x.stop(0);
            x.deed(1, 0, weight);
            for (int p = 1; p < 12; p++) {
                x.follow(p, 0, 1);
            }
            Due.text(x, "cost l*1000+w*13+n");
            for (int p = 0; p <= 12; p++) {
                due.is("with " + p + " lies", x.deedTold(0, 6), p * 1000 + weight * 13 + 12 - p);
                x.say(0, 0, p);
            }
        }
    }

    /** "of bold b BOLD, s the number, n how many are LEFT": with the least and the greatest of each. */
    private static void namesOfBold() {
        for (int s = 0; s < 12; s++) {
            NeverSaid x = Busy.speakers(12);
            x.deed(1, 0, 0);
            Due.text(x, "may s=p");
            Due.text(x, "bold (s=" + s + "&n=12)*100");
            due.is("the one alone", x.rounds(0, 5), 1);
            due.is("itself", x.deedTold(0, 3), 4095 ^ 1 << s);
        }
        for (int bold : new int[] {0, 1, 99, 100}) {
            NeverSaid x = Busy.speakers(3);
            x.deed(1, 0, 0);
            x.bolder(1, bold);
            Due.text(x, "may s=p");
            Due.text(x, "bold (b=" + bold + ")*100");
            due.is("who is as bold as that", x.rounds(0, 1), 1);
            due.is("itself", x.deedTold(0, 3), 5);
        }
    }

    /** "Of a TEXT: what 0 KEY .., 1 how many NUMBERS and NAMES it has. BAD." */
    private static void textToldBounds() {
        refused.each("textTold(0, what)", Busy::hall, (x, v) -> x.textTold(0, v), BAD, -1, 2, 3, MIN, MAX);
        refused.each("textTold(text, 0)", Busy::hall, (x, v) -> x.textTold(v, 0), BAD, -1, 4, 14, MIN, MAX);
        refused.each("textTold(text, 1)", Busy::hall, (x, v) -> x.textTold(v, 1), BAD, -1, 4, 14, MIN, MAX);
        refused.each("full: textTold(text, 0)", Busy::full, (x, v) -> x.textTold(v, 0), BAD, -1, 14);
        NeverSaid x = Busy.full();
        due.is("the first one's key", x.textTold(0, 0), 0);
        due.is("the last one's key", x.textTold(13, 0), 1);
        due.is("the last one's pieces", x.textTold(13, 1), 1);
        due.is("none", new NeverSaid().textTold(0, 0), BAD);
    }

    /** "how many NUMBERS and NAMES it has": not the KEY, not the signs. */
    private static void numbersAndNames() {
        String[] texts = {"may 1", "cost l", "bold b+s", "may !(!s)", "cost 1234*l/w-n", "may((1)|(2))&3"};
        int[] pieces = {1, 1, 2, 1, 4, 3};
        for (int i = 0; i < texts.length; i++) {
            NeverSaid x = new NeverSaid();
            Due.text(x, texts[i]);
            due.is("pieces of " + texts[i], x.textTold(0, 1), pieces[i]);
        }
    }

    /** "The TEXT that counts for a KEY. BAD; NONE." */
    private static void whyBounds() {
        refused.each("why(key)", Busy::hall, (x, v) -> x.why(v), BAD, -1, 3, 4, MIN, MAX);
        refused.each("new: why(key)", NeverSaid::new, (x, v) -> x.why(v), BAD, -1, 3);
        refused.each("new: why(key)", NeverSaid::new, (x, v) -> x.why(v), NONE, 0, 1, 2);
        for (int key = 0; key < 3; key++) {
            NeverSaid x = new NeverSaid();
            Due.text(x, KEYS[key] + " 1");
            for (int other = 0; other < 3; other++) {
                due.is("why(" + other + ") with " + KEYS[key], x.why(other), other == key ? 0 : NONE);
            }
        }
    }

    /** "Of a KEY that TEXT counts that was told last.": not one with a FAULT, nor one that was too many. */
    private static void toldLastCounts() {
        NeverSaid x = Busy.speakers(3);
        x.deed(1, 0, 0);
        for (int i = 0; i < 14; i++) {
            Due.text(x, "cost " + (100 + i));
            due.is("why(1)", x.why(1), i);
            due.is("its cost", x.deedTold(0, 6), 100 + i);
            due.is("a fault", Due.text(x, "cost " + i + "+"), i < 10 ? -107 : -108);
            due.is("why(1) still", x.why(1), i);
        }
        due.is("one too many", Due.text(x, "cost 7"), FULL);
        due.is("why(1) at last", x.why(1), 13);
        due.is("the cost at last", x.deedTold(0, 6), 113);
        due.is("one too many, of another key", Due.text(x, "may 0"), FULL);
        due.is("why(0)", x.why(0), NONE);
        due.is("it is not asked", x.say(0, 0, 2), 2);
    }
}
