/** Promises 25 to 29: the tape and the texts. */
public final class TextsTest {
    private static final int BAD = NeverSaid.BAD, FULL = NeverSaid.FULL, NONE = NeverSaid.NONE;
    private static final Due due = new Due();

    public static void main(String[] args) {
        feed();
        trim();
        bytesInOrder();
        faults();
        faultsOfDepth();
        rightTexts();
        full();
        textTold();
        why();
        values();
        due.end();
    }

    private static void feed() {
        NeverSaid x = new NeverSaid();
        for (int i = 1; i <= 8; i++) {
            due.is("feed " + i, x.feed(0, -1, 7), 12 * i);
        }
        due.is("a ninth", x.feed(0, 0, 0), FULL);
        due.is("bytes", x.count(7), 96);
        x.trim(85);
        due.is("one byte too many", x.feed(0, 0, 0), FULL);
        due.is("bytes then", x.count(7), 85);
        x.trim(84);
        due.is("just enough", x.feed(0, 0, 0), 96);
    }

    private static void trim() {
        NeverSaid x = new NeverSaid();
        due.is("trim(0) of none", x.trim(0), 0);
        due.is("trim(1) of none", x.trim(1), BAD);
        x.feed(0, 0, 0);
        due.is("trim(13)", x.trim(13), BAD);
        due.is("trim(-1)", x.trim(-1), BAD);
        due.is("bytes", x.count(7), 12);
        due.is("trim(12)", x.trim(12), 12);
        due.is("trim(5)", x.trim(5), 5);
        due.is("trim(6)", x.trim(6), BAD);
        due.is("bytes then", x.count(7), 5);
    }

    private static void bytesInOrder() {
        NeverSaid x = new NeverSaid();
        // "cost" " 1+w" " /n "
        due.is("feed", x.feed(0x636F7374, 0x20312B77, 0x202F6E20), 12);
        due.is("text()", x.text(), 0);
        due.is("the tape is used up", x.count(7), 0);
        due.is("a cost", x.textTold(0, 0), 1);
        due.is("three pieces", x.textTold(0, 1), 3);
    }

    /** The fault's place is due, for a text on a new object; the tape is used up. */
    private static void faultAt(String text, int place) {
        NeverSaid x = new NeverSaid();
        due.is("text of '" + text + "'", Due.text(x, text), -100 - place);
        due.is("tape of '" + text + "'", x.count(7), 0);
        due.is("texts of '" + text + "'", x.count(5), 0);
    }

    private static void faults() {
        faultAt("", 0);
        faultAt("   ", 3);
        faultAt("may", 3);
        faultAt("may  ", 5);
        faultAt("mays 1", 0);
        faultAt("ma 1", 0);
        faultAt("  ma y", 2);
        faultAt("May 1", 0);
        faultAt("1", 0);
        faultAt("(may 1)", 0);
        faultAt("may1", 3);
        faultAt("mayp", 0);
        faultAt("may may", 4);
        faultAt("may l", 4);
        faultAt("may b", 4);
        faultAt("may n", 4);
        faultAt("cost s", 5);
        faultAt("cost p", 5);
        faultAt("cost b", 5);
        faultAt("bold p", 5);
        faultAt("bold w", 5);
        faultAt("bold l", 5);
        faultAt("may ss", 4);
        faultAt("may s p", 6);
        faultAt("may s1", 5);
        faultAt("may 1s", 5);
        faultAt("may 1 2", 6);
        faultAt("may 12345", 4);
        faultAt("may 00000", 4);
        faultAt("may 1+12345+", 6);
        faultAt("may 1+", 6);
        faultAt("may 1+ ", 7);
        faultAt("may +1", 4);
        faultAt("may -1", 4);
        faultAt("may 1<2<3", 7);
        faultAt("may 1=2+3>4", 9);
        faultAt("may (1<2<3)", 8);
        faultAt("may 1<=2", 6);
        faultAt("may 1&&2", 6);
        faultAt("may !", 5);
        faultAt("may 1!", 5);
        faultAt("may 1!2", 5);
        faultAt("may ()", 5);
        faultAt("may (1", 6);
        faultAt("may (1 ", 7);
        faultAt("may 1)", 5);
        faultAt("may (1)(2)", 7);
        faultAt("may (1)2", 7);
        faultAt("may 2(1)", 5);
        faultAt("may 1\t", 5);
        faultAt("may 1\0", 5);
        faultAt("may\u00a01", 3);
        faultAt("may S", 4);
        faultAt("may 1%2", 5);
        faultAt("may *", 4);
        for (String key : new String[] {"may", "cost", "bold"}) {
            for (int i = 0; i < key.length(); i++) {
                faultAt(key.substring(0, i) + "x" + key.substring(i + 1) + " 1", 0);
            }
            faultAt(key.substring(1) + " 1", 0);
            faultAt(key + key + " 1", 0);
        }
        faultAt("(".repeat(96), 0);
        faultAt("may" + "!".repeat(8) + "1" + "+".repeat(84), 13);
        faultAt(" ".repeat(96), 96);
        faultAt("m ".repeat(48), 0);
        faultAt("1a".repeat(48), 0);
    }

    private static void faultsOfDepth() {
        faultAt("may " + "(".repeat(9) + "1" + ")".repeat(9), 12);
        faultAt("may " + "!".repeat(9) + "1", 12);
        faultAt("may !(!(!(!(!(!(!(!!1)))))))", 19);
        faultAt("may !(!(!(!(!(!(!(!(!1", 20);
        faultAt("may " + "(".repeat(9), 12);
        faultAt("may " + "(".repeat(8), 12);
        faultAt("may " + "(".repeat(8) + "1" + ")".repeat(9), 21);
        rightText("may " + "(".repeat(8) + "1" + ")".repeat(8), 0, 1);
        rightText("may " + "!".repeat(8) + "1", 0, 1);
        rightText("may " + "!(".repeat(8) + "1" + ")".repeat(8), 0, 1);
        rightText("may (((((((1)+(2)))))))*((((((((3))))))))", 0, 3);
        rightText("may !!!!!!!!1+!!!!!!!!2", 0, 2);
        rightText("may !!!!(!!!!1)+!!!!(!!!!2)", 0, 2);
        faultAt("may !!!!(!!!!!1)", 13);
    }

    private static void rightText(String text, int key, int pieces) {
        NeverSaid x = new NeverSaid();
        due.is("text of '" + text + "'", Due.text(x, text), 0);
        due.is("key of '" + text + "'", x.textTold(0, 0), key);
        due.is("pieces of '" + text + "'", x.textTold(0, 1), pieces);
    }

    private static void rightTexts() {
        rightText("may 1", 0, 1);
        rightText("   may   s   ", 0, 1);
        rightText("may(p)", 0, 1);
        rightText("may!w", 0, 1);
        rightText("cost l+w-n*9999/0000", 1, 5);
        rightText("bold b<s|s=n&n>b", 2, 6);
        rightText("bold(b<s)=(s<n)", 2, 4);
        rightText("bold 1 < 2 & 3 < 4 | 5 = 6", 2, 6);
        StringBuilder longest = new StringBuilder("may 1");
        while (longest.length() < 95) {
            longest.append("+1");
        }
        rightText(longest.toString() + " ", 0, 46);
    }

    private static void full() {
        NeverSaid x = new NeverSaid();
        for (int i = 0; i < 14; i++) {
            due.is("text " + i, Due.text(x, "may " + i), i);
        }
        due.is("a 15th", Due.text(x, "bold 1"), FULL);
        due.is("the tape is used up", x.count(7), 0);
        due.is("a 15th with a fault", Due.text(x, "bold w"), -105);
        due.is("fourteen", x.count(5), 14);
        due.is("it does not count", x.why(2), NONE);
    }

    private static void textTold() {
        NeverSaid x = new NeverSaid();
        due.is("none yet", x.textTold(0, 0), BAD);
        Due.text(x, "bold b+b+1");
        due.is("key", x.textTold(0, 0), 2);
        due.is("pieces", x.textTold(0, 1), 3);
        due.is("textTold(0, 2)", x.textTold(0, 2), BAD);
        due.is("textTold(0, -1)", x.textTold(0, -1), BAD);
        due.is("textTold(1, 0)", x.textTold(1, 0), BAD);
        due.is("textTold(-1, 0)", x.textTold(-1, 0), BAD);
    }

    private static void why() {
        NeverSaid x = new NeverSaid();
        due.is("none", x.why(1), NONE);
        Due.text(x, "cost 1");
        Due.text(x, "may 1");
        Due.text(x, "cost 2");
        due.is("why(0)", x.why(0), 1);
        due.is("why(1), the last", x.why(1), 2);
        due.is("why(2)", x.why(2), NONE);
        due.is("why(3)", x.why(3), BAD);
        due.is("why(-1)", x.why(-1), BAD);
        Due.text(x, "cost (");
        due.is("a text with a fault does not count", x.why(1), 2);
    }

    /** What a text of cost gives, with 1 lie, weight 5 and 3 left. */
    private static void gives(String text, int want) {
        NeverSaid x = new NeverSaid();
        for (int i = 0; i < 4; i++) {
            x.person(0, 0);
        }
        x.deed(1, 0, 5);
        x.say(0, 0, 0);
        Due.text(x, "cost " + text);
        due.is("cost " + text, x.deedTold(0, 6), want);
    }

    private static void values() {
        gives("l*100+w*10+n", 153);
        gives("7", 7);
        gives("1+2*3", 7);
        gives("(1+2)*3", 9);
        gives("20-5-3", 12);
        gives("100/7/2", 7);
        gives("100/(7/2)", 33);
        gives("7*3/2", 10);
        gives("10+(0-7)/2", 7);
        gives("5/0+3", 3);
        gives("w/(n-3)", 0);
        gives("3<5", 1);
        gives("5<5", 0);
        gives("5>3", 1);
        gives("5>5", 0);
        gives("5=5", 1);
        gives("5=4", 0);
        gives("1+1=2", 1);
        gives("7&9", 1);
        gives("7&0", 0);
        gives("0&7", 0);
        gives("0|9", 1);
        gives("0|0", 0);
        gives("9|0", 1);
        gives("1|0&0", 1);
        gives("(1|0)&0", 0);
        gives("0&0|1", 1);
        gives("2<3&1", 1);
        gives("!0", 1);
        gives("!7", 0);
        gives("!!7", 1);
        gives("!0+5", 6);
        gives("!(0+5)", 0);
        gives("!0*9", 9);
        gives("9999*9999*9999/9999", Math.max(0, Math.min(99999, 9999 * 9999 * 9999 / 9999)));
        gives("(9999*9999*30<0)*10", 9999 * 9999 * 30 < 0 ? 10 : 0);
        gives("(2048*1024*1024<0)*5+1", 6);
        gives("(2048*1024*1024/(0-1)<0)*5", 5);
    }
}
