/** Promises 39 to 43 and the terms that they stand on, at their bounds: a sentence of the document for each test. */
public final class ImagesEdgesTest {
    private static final int BAD = NeverSaid.BAD, NO = NeverSaid.NO, FULL = NeverSaid.FULL, NONE = NeverSaid.NONE;
    private static final int MIN = Integer.MIN_VALUE, MAX = Integer.MAX_VALUE;
    private static final Due due = new Due();
    private static final Refused refused = new Refused(due);

    public static void main(String[] args) {
        sixtyWait();
        anyNumberWaits();
        checkBoundsOfN();
        checkRefused();
        checkFirstRefusal();
        checkDeedOfTheImage();
        checkEachNumber();
        checkMissing();
        checkOneTooMany();
        checkOfNone();
        checkNoneWaitThen();
        checkChangesNothingElse();
        checkLiesOfThatDeed();
        checkByTheImage();
        checkByItsTexts();
        checkByItsWeight();
        keepHowMany();
        keepTheLatest();
        backWithoutImage();
        backToAll();
        backAgainAndAgain();
        backButNotAll();
        backToNobody();
        countBounds();
        countLeast();
        countGreatest();
        fiveHundredAndTwelveCalls();
        objectsApart();
        due.end();
    }

    /** "One more number waits: how many. FULL: 60 wait." */
    private static void sixtyWait() {
        NeverSaid x = new NeverSaid();
        for (int i = 1; i <= 60; i++) {
            due.is("tell " + i, x.tell(i), i);
            due.is("wait " + i, x.count(6), i);
        }
        due.is("a 61st", x.tell(61), FULL);
        due.is("60 wait still", x.count(6), 60);
        refused.each("full: tell(v)", Busy::full, (y, v) -> y.tell(v), FULL, 0, 12, MIN, MAX);
        x.check(0, 1);
        due.is("from the start again", x.tell(0), 1);
    }

    /** Any number may wait: none is refused. */
    private static void anyNumberWaits() {
        NeverSaid x = new NeverSaid();
        int many = 0;
        for (int v : new int[] {0, -1, MIN, MAX, BAD, NO, FULL, NONE}) {
            many++;
            due.is("tell(" + v + ")", x.tell(v), many);
        }
    }

    /** Five people; each round the last one speaks, of the least: the doer first; two are left at last. */
    private static NeverSaid hall() {
        NeverSaid x = new NeverSaid();
        for (int i = 0; i < 5; i++) {
            x.person(0, i == 4 ? 100 : 0);
        }
        x.deed(1, 0, 3);
        return x;
    }

    private static NeverSaid kept() {
        NeverSaid x = hall();
        x.keep();
        return x;
    }

    /** What n rounds in that hall come to. */
    private static int[] roundsTold(int n) {
        int[] told = new int[2 * n];
        for (int i = 0; i < n; i++) {
            told[2 * i] = Math.max(2, 4 - i);
            told[2 * i + 1] = 1;
        }
        return told;
    }

    private static int checkOf(NeverSaid x, int n, int[] numbers) {
        for (int v : numbers) {
            x.tell(v);
        }
        return x.check(0, n);
    }

    /** "of n (1 .. 30)": 0, for all that is right. */
    private static void checkBoundsOfN() {
        for (int n = 1; n <= 30; n++) {
            due.is("check of " + n, checkOf(kept(), n, roundsTold(n)), 0);
        }
        for (int n : new int[] {-1, 0, 31, 32, MIN, MAX}) {
            NeverSaid x = kept();
            due.is("check(0, " + n + ")", checkOf(x, n, roundsTold(2)), BAD);
            due.is("none wait then", x.count(6), 0);
        }
    }

    /** "BAD: n; NO ..; BAD: no such DEED in it.": nothing is otherwise, but that none wait. */
    private static void checkRefused() {
        for (int n : new int[] {-1, 0, 31, MIN, MAX}) {
            refused.isThen("check(0, " + n + ")", Busy::hall, x -> x.check(0, n), BAD, Busy::hallWithoutNumbers);
        }
        for (int deed : new int[] {-1, 2, 3, 8, MIN, MAX}) {
            refused.isThen("check(" + deed + ", 1)", Busy::hall, x -> x.check(deed, 1), BAD, Busy::hallWithoutNumbers);
        }
        refused.isThen("no image", () -> withNumber(hall()), x -> x.check(0, 1), NO, ImagesEdgesTest::hall);
    }

    private static NeverSaid withNumber(NeverSaid x) {
        x.tell(4);
        return x;
    }

    /** Of several the one that stands first: BAD of n, NO, BAD of the DEED. */
    private static void checkFirstRefusal() {
        for (int n : new int[] {0, 31}) {
            due.is("n, without image", hall().check(0, n), BAD);
            due.is("n, without image and deed", new NeverSaid().check(0, n), BAD);
            due.is("n, without deed", kept().check(1, n), BAD);
        }
        for (int deed : new int[] {-1, 0, 1, 8, MIN, MAX}) {
            due.is("without image, deed " + deed, hall().check(deed, 1), NO);
            due.is("without image, deed " + deed + ", 30", hall().check(deed, 30), NO);
        }
    }

    /** "BAD: no such DEED in it": the greatest of the image, not of what is. */
    private static void checkDeedOfTheImage() {
        for (int many = 0; many <= 8; many++) {
            NeverSaid x = Busy.speakers(3);
            for (int d = 0; d < many; d++) {
                x.deed(1, 0, 0);
            }
            x.keep();
            x.deed(1, 0, 0);
            due.is("the last of " + many, x.check(many - 1, 1), many > 0 ? 1 : BAD);
            due.is("behind the last of " + many, x.check(many, 1), BAD);
            due.is("ahead of the first", x.check(-1, 1), BAD);
        }
    }

    /** "else 1 and how many stand right ahead of the first that is not": at each place, one more and one less. */
    private static void checkEachNumber() {
        for (int n : new int[] {1, 2, 3, 29, 30}) {
            for (int place = 0; place < 2 * n; place++) {
                for (int off = -1; off <= 1; off += 2) {
                    int[] told = roundsTold(n);
                    told[place] += off;
                    due.is(n + " rounds, wrong at " + place, checkOf(kept(), n, told), 1 + place);
                    told[2 * n - 1] += 5;
                    due.is("the first that is wrong", checkOf(kept(), n, told), 1 + place);
                }
            }
        }
    }

    /** "(or is missing ..)": from each place on. */
    private static void checkMissing() {
        for (int n : new int[] {1, 2, 30}) {
            for (int many = 0; many < 2 * n; many++) {
                int[] told = java.util.Arrays.copyOf(roundsTold(n), many);
                due.is(n + " rounds, but " + many + " numbers", checkOf(kept(), n, told), 1 + many);
            }
        }
    }

    /** "(.. or one too many)": one, several, as many as can be. */
    private static void checkOneTooMany() {
        for (int n : new int[] {1, 2, 28, 29}) {
            for (int many = 2 * n + 1; many <= 60; many++) {
                int[] told = java.util.Arrays.copyOf(roundsTold(30), many);
                due.is(n + " rounds, but " + many + " numbers", checkOf(kept(), n, told), 1 + 2 * n);
            }
        }
        int[] wrong = java.util.Arrays.copyOf(roundsTold(30), 5);
        wrong[1] = 0;
        due.is("wrong, and too many", checkOf(kept(), 2, wrong), 2);
    }

    /** No number waits: the first one is missing. */
    private static void checkOfNone() {
        for (int n : new int[] {1, 30}) {
            due.is("none wait", kept().check(0, n), 1);
        }
    }

    /** "(none do then, whatever is answered)": and what waited does not come back. */
    private static void checkNoneWaitThen() {
        int[][] numbers = {{4, 1}, {5, 1}, {4}, {4, 1, 3}};
        int[] answers = {0, 1, 2, 3};
        NeverSaid x = kept();
        for (int i = 0; i < numbers.length; i++) {
            due.is("check " + i, checkOf(x, 1, numbers[i]), answers[i]);
            due.is("none wait", x.count(6), 0);
            due.is("the first is missing", x.check(0, 1), 1);
            due.is("the first to come", x.tell(4), 1);
            due.is("it is the first", x.check(0, 1), 2);
        }
    }

    /** What a check plays is neither what is nor the image. */
    private static void checkChangesNothingElse() {
        refused.isThen("right", Busy::hall, x -> x.check(0, 2), 0, Busy::hallWithoutNumbers);
        refused.isThen("one too many", Busy::hall, x -> x.check(0, 1), 3, Busy::hallWithoutNumbers);
        refused.isThen("one is missing", Busy::hall, x -> x.check(0, 30), 5, Busy::hallWithoutNumbers);
    }

    /** "LIES (all of that DEED) behind it": those told ahead of the image, too, not those of other DEEDS. */
    private static void checkLiesOfThatDeed() {
        NeverSaid x = hall();
        x.deed(1, 0, 0);
        x.say(0, 0, 0);
        x.say(0, 1, 0);
        x.follow(1, 0, 1);
        x.follow(2, 0, 1);
        x.keep();
        x.tell(3);
        x.tell(2);
        x.tell(2);
        x.tell(3);
        due.is("two more lies", x.check(0, 2), 0);
        due.is("one told", x.deedTold(0, 5), 1);
    }

    /** "THE ROUNDS TOLD .. by THE IMAGE": its z, STOP, TEXTS, PEOPLE, LEFT; not those that are. */
    private static void checkByTheImage() {
        NeverSaid x = hall();
        x.bolder(4, 37);
        x.seed(99);
        x.keep();
        int[] told = new int[12];
        for (int i = 0; i < 6; i++) {
            x.rounds(0, 1);
            told[2 * i] = Integer.bitCount(x.deedTold(0, 3));
            told[2 * i + 1] = x.deedTold(0, 5);
        }
        x.stop(0);
        x.bolder(4, 100);
        x.turns(4, 3);
        x.follow(0, 1, 1);
        x.again(0);
        x.person(0, 100);
        x.seed(5);
        Due.text(x, "may 0");
        Due.text(x, "bold 100");
        due.is("by the image", checkOf(x, 6, told), 0);
        x.keep();
        due.is("by a later one", checkOf(x, 6, told), 1);
    }

    /** The texts of the image count, all fourteen of them, though others were told later. */
    private static void checkByItsTexts() {
        NeverSaid x = hall();
        for (int i = 0; i < 12; i++) {
            Due.text(x, "may 0");
        }
        Due.text(x, "bold (s=1)*100");
        Due.text(x, "may p=3");
        x.keep();
        due.is("one speaks, of 3 alone", checkOf(x, 2, new int[] {4, 0, 4, 0}), 0);
        NeverSaid y = hall();
        Due.text(y, "bold 0");
        y.keep();
        Due.text(y, "bold 100");
        due.is("nobody speaks", checkOf(y, 1, new int[] {5, 0}), 0);
    }

    /** A DEED is as heavy in the image: one who is BOUGHT keeps silent, or does not. */
    private static void checkByItsWeight() {
        for (int weight : new int[] {49, 50, 51, 99}) {
            NeverSaid x = hall();
            x.deed(2, 23, weight);
            x.turns(4, 4);
            x.bolder(4, 50);
            Due.text(x, "bold (s=4)*100");
            x.keep();
            x.tell(weight <= 50 ? 4 : 5);
            x.tell(0);
            due.is("weight " + weight, x.check(1, 1), 0);
        }
    }

    /** "AN IMAGE is kept: how many of PEOPLE.": from nobody to twelve. */
    private static void keepHowMany() {
        for (int many = 0; many <= 12; many++) {
            NeverSaid x = Busy.speakers(many);
            due.is("keep of " + many, x.keep(), many);
            x.person(0, 0);
            due.is("back to " + many, x.back(), many);
            due.is("so many are there", x.count(0), many);
        }
        refused.is("keep of what is kept", ImagesEdgesTest::kept, NeverSaid::keep, 5);
    }

    /** Of several images the latest is THE IMAGE. */
    private static void keepTheLatest() {
        NeverSaid x = new NeverSaid();
        for (int many = 0; many <= 12; many++) {
            x.keep();
            x.seed(many);
            x.person(0, 0);
            due.is("to the latest", x.back(), many);
            due.is("z of the latest", x.count(8), many == 0 ? 1 : many - 2);
            x.seed(many - 1);
            x.person(0, 0);
        }
    }

    /** "NO: there is none.": nothing is otherwise. */
    private static void backWithoutImage() {
        refused.is("a new object", NeverSaid::new, NeverSaid::back, NO);
        refused.is("a hall", ImagesEdgesTest::hall, NeverSaid::back, NO);
        refused.is("numbers wait", () -> withNumber(hall()), NeverSaid::back, NO);
    }

    private static NeverSaid keptHall() {
        NeverSaid x = Busy.hall();
        x.keep();
        return x;
    }

    /** One thing of all that an image keeps is otherwise. */
    private static void change(NeverSaid x, int what) {
        switch (what) {
            case 0: x.person(5, 5); break;
            case 1: x.turns(6, 5); break;
            case 2: x.bolder(6, 45); break;
            case 3: x.away(6, 23, 1); break;
            case 4: x.friend(6, 0, 1); break;
            case 5: x.follow(6, 0, 1); break;
            case 6: x.deal(12); break;
            case 7: x.seed(0); break;
            case 8: x.deed(3, 0, 0); break;
            case 9: x.again(2); break;
            case 10: x.stop(0); break;
            case 11: x.say(0, 1, 0); break;
            case 12: x.rounds(1, 40); break;
            case 13: x.away(1, 23, 0); break;
            case 14: x.friend(2, 4, 0); break;
            case 15: x.follow(1, 2, 0); break;
            default: break;
        }
    }

    /** "All is as THE IMAGE: how many of PEOPLE.": after each thing alone, and after all together. */
    private static void backToAll() {
        for (int what = 0; what < 16; what++) {
            int one = what;
            refused.isThen("back from change " + one, () -> changed(one, one), NeverSaid::back, 7,
                    ImagesEdgesTest::keptHall);
        }
        refused.isThen("back from all", () -> changed(0, 15), NeverSaid::back, 7, ImagesEdgesTest::keptHall);
        refused.isThen("back from texts", ImagesEdgesTest::withTexts, NeverSaid::back, 7,
                ImagesEdgesTest::keptWithoutTape);
    }

    private static NeverSaid changed(int first, int last) {
        NeverSaid x = keptHall();
        for (int what = first; what <= last; what++) {
            change(x, what);
        }
        return x;
    }

    private static NeverSaid keptWithoutTape() {
        NeverSaid x = keptHall();
        x.trim(0);
        return x;
    }

    private static NeverSaid withTexts() {
        NeverSaid x = keptWithoutTape();
        Due.text(x, "may 0");
        Due.text(x, "cost 99");
        Due.text(x, "bold 100");
        return x;
    }

    /** "(again and again)", from a full hall, too. */
    private static void backAgainAndAgain() {
        NeverSaid x = kept();
        for (int i = 0; i < 10; i++) {
            x.deal(12);
            due.is("twelve", x.count(0), 12);
            for (int d = 0; d < 8; d++) {
                x.deed(1 << 11, 0, 0);
            }
            due.is("eight", x.count(1), 8);
            x.rounds(0, 9);
            due.is("back", x.back(), 5);
            due.is("all are left", x.deedTold(0, 3), 31);
            due.is("one deed", x.count(1), 1);
            due.is("nobody is the sixth", x.told(5, 0), BAD);
            due.is("z", x.count(8), 1);
        }
        due.is("one who comes anew", x.person(2, 3), 5);
        int[] fresh = {2, 3, 0, 0, 0, 97, 0};
        for (int what = 0; what < 7; what++) {
            due.is("is as told, " + what, x.told(5, what), fresh[what]);
        }
    }

    /** "AN IMAGE keeps all but SHEETS, SLOTS, numbers that wait, THE TAPE". */
    private static void backButNotAll() {
        refused.is("back from what no image keeps", ImagesEdgesTest::withOtherThings, NeverSaid::back, 7);
        NeverSaid x = withOtherThings();
        x.back();
        due.is("numbers wait", x.count(6), 5);
        due.is("bytes", x.count(7), 26);
        due.is("a slot", x.rest(0, 100), 21);
        due.is("a sheet that was made", x.mark(3, 23, 1), 1);
        due.is("a sheet that went", x.mark(0, 0, 1), NeverSaid.NOTHING);
    }

    private static NeverSaid withOtherThings() {
        NeverSaid x = keptHall();
        x.sheet(3, 1, 24);
        x.sheet(0, -1, 0);
        x.mark(1, 0, 5);
        x.lay(0, 3, 21);
        x.lay(1, 0, 0);
        x.tell(7);
        x.feed(0x20202020, 0x20202020, 0x20202020);
        return x;
    }

    /** An image of nobody is one. */
    private static void backToNobody() {
        NeverSaid x = new NeverSaid();
        x.keep();
        x.deal(12);
        x.deed(3, 1, 1);
        Due.text(x, "may 0");
        x.stop(4);
        due.is("back to nobody", x.back(), 0);
        int[] counts = {0, 0, 2, 0, 0, 0, 0, 0, 1};
        for (int what = 0; what < 9; what++) {
            due.is("count(" + what + ")", x.count(what), counts[what]);
        }
        due.is("why(0)", x.why(0), NONE);
        due.is("most()", x.most(), NONE);
        due.is("silent()", x.silent(), 0);
    }

    /** "How many: 0 PEOPLE, .. 8 z. BAD." */
    private static void countBounds() {
        refused.each("count(what)", Busy::hall, (x, v) -> x.count(v), BAD, -1, 9, 10, MIN, MAX);
        NeverSaid x = Busy.hall();
        int[] known = {7, 3, 3};
        for (int what = 0; what < 3; what++) {
            due.is("count(" + what + ")", x.count(what), known[what]);
        }
        int[] later = {4, 4, 14, 4711};
        for (int what = 5; what < 9; what++) {
            due.is("count(" + what + ")", x.count(what), later[what - 5]);
        }
    }

    private static void countLeast() {
        NeverSaid x = new NeverSaid();
        x.stop(0);
        x.seed(MIN);
        int[] counts = {0, 0, 0, 0, 0, 0, 0, 0, MIN};
        for (int what = 0; what < 9; what++) {
            due.is("the least count(" + what + ")", x.count(what), counts[what]);
        }
    }

    /** As many of everything as can be: SAYINGS and LIES of all DEEDS, together. */
    private static void countGreatest() {
        NeverSaid x = Busy.full();
        int[] counts = {12, 8, 2, 1, 0, 14, 60, 96, 1};
        for (int what = 0; what < 9; what++) {
            due.is("full: count(" + what + ")", x.count(what), counts[what]);
        }
        NeverSaid y = Busy.speakers(12);
        y.stop(0);
        for (int p = 1; p < 12; p++) {
            y.follow(p, 0, 1);
        }
        for (int d = 0; d < 8; d++) {
            y.deed(1, 0, 0);
            for (int p = 0; p < 12; p++) {
                y.say(0, d, p);
                due.is("sayings", y.count(3), 12 * d + p + 1);
                due.is("lies", y.count(4), 12 * d + p + 1);
            }
        }
        y.again(7);
        due.is("sayings of seven", y.count(3), 84);
        due.is("lies of seven", y.count(4), 84);
    }

    /** "An object is used for at most 512 calls": all of them answer as told. */
    private static void fiveHundredAndTwelveCalls() {
        NeverSaid x = hall();
        x.keep();
        int calls = 7;
        while (calls + 5 <= 512) {
            x.tell(4);
            x.tell(1);
            due.is("check within " + calls, x.check(0, 1), 0);
            due.is("rounds within " + calls, x.rounds(0, 40), 3);
            due.is("back within " + calls, x.back(), 5);
            calls += 5;
        }
        NeverSaid y = new NeverSaid();
        for (int i = 0; i < 256; i++) {
            due.is("fed " + i, y.feed(0x6D617920, 0x31202020, 0x20202020), 12);
            due.is("text " + i, y.text(), i < 14 ? i : FULL);
        }
    }

    /** Two objects know nothing of one another. */
    private static void objectsApart() {
        refused.is("another object's calls", Busy::hall, x -> Busy.full().count(0), 12);
        NeverSaid x = hall();
        NeverSaid y = new NeverSaid();
        due.is("nobody is in the other one", y.count(0), 0);
        y.deal(12);
        due.is("five in the first one", x.count(0), 5);
        due.is("its z", x.count(8), 1);
    }
}
