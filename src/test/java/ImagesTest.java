/** Promises 39 to 43: numbers that wait, images, counts. */
public final class ImagesTest {
    private static final int BAD = NeverSaid.BAD, NO = NeverSaid.NO, FULL = NeverSaid.FULL, NONE = NeverSaid.NONE;
    private static final Due due = new Due();

    public static void main(String[] args) {
        tell();
        checkRefused();
        check();
        checkByTheImage();
        checkOfThirty();
        keepAndBack();
        backAgain();
        whatNoImageKeeps();
        count();
        due.end();
    }

    private static void tell() {
        NeverSaid x = new NeverSaid();
        for (int i = 1; i <= 60; i++) {
            due.is("tell " + i, x.tell(-i), i);
        }
        due.is("a 61st", x.tell(0), FULL);
        due.is("sixty", x.count(6), 60);
    }

    private static void checkRefused() {
        NeverSaid x = new NeverSaid();
        x.tell(1);
        due.is("check(0, 0)", x.check(0, 0), BAD);
        due.is("none wait then", x.count(6), 0);
        x.tell(1);
        due.is("check(0, 31)", x.check(0, 31), BAD);
        due.is("none wait then, either", x.count(6), 0);
        x.tell(1);
        due.is("no image", x.check(0, 1), NO);
        due.is("none wait without image", x.count(6), 0);
        x.keep();
        x.person(0, 0);
        x.deed(1, 0, 0);
        x.tell(1);
        due.is("no such deed in it", x.check(0, 1), BAD);
        due.is("none wait without deed", x.count(6), 0);
        due.is("check(-1, 1)", x.check(-1, 1), BAD);
        due.is("check(-1, 31)", x.check(-1, 31), BAD);
    }

    /** Five people; each round the last one speaks, of the least: the doer first. */
    private static NeverSaid hall() {
        NeverSaid x = new NeverSaid();
        for (int i = 0; i < 5; i++) {
            x.person(0, i == 4 ? 100 : 0);
        }
        x.deed(1, 0, 3);
        return x;
    }

    private static int checkOf(NeverSaid x, int n, int... numbers) {
        for (int v : numbers) {
            x.tell(v);
        }
        return x.check(0, n);
    }

    private static void check() {
        NeverSaid x = hall();
        x.keep();
        due.is("one round", checkOf(x, 1, 4, 1), 0);
        due.is("four rounds", checkOf(x, 4, 4, 1, 3, 1, 2, 1, 2, 1), 0);
        due.is("none wait", checkOf(x, 1), 1);
        due.is("the first is wrong", checkOf(x, 1, 5, 1), 1);
        due.is("the second is wrong", checkOf(x, 1, 4, 0), 2);
        due.is("the second is missing", checkOf(x, 1, 4), 2);
        due.is("one too many", checkOf(x, 1, 4, 1, 3), 3);
        due.is("two too many", checkOf(x, 1, 4, 1, 3, 1), 3);
        due.is("the third is wrong", checkOf(x, 2, 4, 1, 4, 1), 3);
        due.is("the third is missing", checkOf(x, 2, 4, 1), 3);
        due.is("the fourth is wrong", checkOf(x, 2, 4, 1, 3, 2), 4);
        due.is("the fourth is missing", checkOf(x, 2, 4, 1, 3), 4);
        due.is("none wait then", x.count(6), 0);
        due.is("the hall did not move", x.deedTold(0, 3), 31);
        due.is("z did not move", x.count(8), 1);
        due.is("nor did the image", checkOf(x, 1, 4, 1), 0);
    }

    private static void checkByTheImage() {
        NeverSaid x = hall();
        x.say(0, 0, 0);
        x.keep();
        x.again(0);
        x.bolder(4, 0);
        x.stop(4);
        Due.text(x, "may 0");
        due.is("lies are all of that deed", checkOf(x, 3, 3, 1, 2, 1, 2, 1), 0);
        due.is("the hall did not move", x.deedTold(0, 5), 0);
        x.back();
        Due.text(x, "may p=2");
        x.keep();
        Due.text(x, "may 0");
        due.is("by the image's text", checkOf(x, 2, 3, 1, 3, 1), 0);
        due.is("left by the image's text", x.back() == 5 && x.rounds(0, 1) == 1 ? x.deedTold(0, 3) : -1, 26);
    }

    private static void checkOfThirty() {
        NeverSaid x = hall();
        x.bolder(4, 20);
        x.seed(5);
        x.keep();
        int[] told = new int[60];
        for (int i = 0; i < 30; i++) {
            x.rounds(0, 1);
            told[2 * i] = Integer.bitCount(x.deedTold(0, 3));
            told[2 * i + 1] = x.deedTold(0, 5);
        }
        due.is("thirty rounds", checkOf(x, 30, told), 0);
        told[59]++;
        due.is("the last is wrong", checkOf(x, 30, told), 60);
        due.is("29 rounds, one too many", checkOf(x, 29, told), 59);
    }

    private static void keepAndBack() {
        NeverSaid x = new NeverSaid();
        due.is("back() without", x.back(), NO);
        due.is("keep() of nobody", x.keep(), 0);
        x.person(1, 10);
        x.person(2, 20);
        x.person(3, 30);
        x.away(0, 5, 1);
        x.friend(0, 1, 1);
        x.follow(1, 2, 1);
        x.deed(1, 5, 50);
        x.stop(1);
        x.say(0, 0, 1);
        x.seed(1234);
        Due.text(x, "may 1");
        Due.text(x, "cost 7");
        due.is("keep()", x.keep(), 3);
        x.turns(0, 5);
        x.bolder(1, 99);
        x.away(0, 5, 0);
        x.friend(0, 1, 0);
        x.friend(0, 2, 1);
        x.follow(1, 2, 0);
        x.follow(0, 1, 1);
        x.person(0, 0);
        x.again(0);
        x.deed(2, 1, 1);
        x.stop(4);
        x.rounds(1, 5);
        Due.text(x, "cost 8");
        Due.text(x, "bold 8");
        due.is("back()", x.back(), 3);
        int[][] told = {{1, 10, 32, 2, 0, 15, 0}, {2, 20, 0, 1, 4, 80, 1}, {3, 30, 0, 0, 0, 70, 1}};
        for (int p = 0; p < 3; p++) {
            for (int what = 0; what < 7; what++) {
                due.is("told(" + p + ", " + what + ")", x.told(p, what), told[p][what]);
            }
        }
        due.is("nobody else", x.told(3, 0), BAD);
        int[] deed = {1, 5, 50, 1, 1, 0, 7, 1};
        for (int what = 0; what < 8; what++) {
            due.is("deedTold(0, " + what + ")", x.deedTold(0, what), deed[what]);
        }
        int[] counts = {3, 1, 1, 1, 0, 2, 0, 0, 1234};
        for (int what = 0; what < 9; what++) {
            due.is("count(" + what + ")", x.count(what), counts[what]);
        }
        due.is("why(0)", x.why(0), 0);
        due.is("why(1)", x.why(1), 1);
        due.is("why(2)", x.why(2), NONE);
        due.is("textTold(2, 0)", x.textTold(2, 0), BAD);
        due.is("follow(1, 2, 0), told again", x.follow(1, 2, 0), 1);
    }

    private static void backAgain() {
        NeverSaid x = hall();
        x.keep();
        for (int i = 0; i < 3; i++) {
            x.person(0, 0);
            x.friend(5, 0, 1);
            x.follow(5, 0, 1);
            x.away(5, 1, 1);
            x.rounds(0, 9);
            due.is("back " + i, x.back(), 5);
            due.is("left " + i, x.deedTold(0, 3), 31);
            due.is("z " + i, x.count(8), 1);
            due.is("friends of 0, " + i, x.told(0, 3), 0);
        }
        x.person(4, 4);
        int[] fresh = {4, 4, 0, 0, 0, 89, 0};
        for (int what = 0; what < 7; what++) {
            due.is("one who comes new is as told, " + what, x.told(5, what), fresh[what]);
        }
        x.keep();
        x.person(0, 0);
        due.is("a later image", x.back(), 6);
    }

    private static void whatNoImageKeeps() {
        NeverSaid x = new NeverSaid();
        x.sheet(0, 0, 2);
        x.lay(0, 3, 5);
        x.tell(1);
        x.feed(0, 0, 0);
        x.keep();
        due.is("they wait still", x.count(6), 1);
        due.is("the tape is still there", x.count(7), 12);
        x.sheet(1, 0, 3);
        x.mark(0, 0, 9);
        x.lay(0, 3, 6);
        x.tell(2);
        x.feed(0, 0, 0);
        x.back();
        due.is("numbers wait on", x.count(6), 2);
        due.is("the tape stays", x.count(7), 24);
        due.is("slots stay", x.rest(0, 100), 6);
        due.is("sheets stay", x.mark(1, 2, 1), 1);
        x.lay(1, 2, 0);
        due.is("marks stay", x.item(1, 0), 9);
    }

    private static void count() {
        NeverSaid x = hall();
        x.deed(2, 0, 0);
        x.say(0, 0, 0);
        x.say(0, 0, 1);
        x.say(0, 1, 1);
        x.stop(3);
        Due.text(x, "may 1");
        x.tell(9);
        x.tell(9);
        Due.write(x, "four");
        x.seed(-5);
        int[] want = {5, 2, 3, 3, 2, 1, 2, 4, -5};
        for (int what = 0; what < 9; what++) {
            due.is("count(" + what + ")", x.count(what), want[what]);
        }
        due.is("count(9)", x.count(9), BAD);
        due.is("count(-1)", x.count(-1), BAD);
    }
}
