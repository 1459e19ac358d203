/** Promises 12 to 18 and the terms that they stand on, at their bounds: a sentence of the document for each test. */
public final class DeedsEdgesTest {
    private static final int BAD = NeverSaid.BAD, NO = NeverSaid.NO, FULL = NeverSaid.FULL, NONE = NeverSaid.NONE;
    private static final int MIN = Integer.MIN_VALUE, MAX = Integer.MAX_VALUE;
    private static final int SPEAKER = 0, SURE = 1, LOYAL = 2, ORDERED = 3, BOUGHT = 4, LYING = 5;
    private static final Due due = new Due();
    private static final Refused refused = new Refused(due);
    private static final Refused.Making NO_TO_ALL = DeedsEdgesTest::noToAll;

    public static void main(String[] args) {
        eightAtMost();
        badAheadOfFull();
        oneOrTwoDoers();
        doersWhoAreNot();
        hourOfADeed();
        weightOfADeed();
        asAtFirst();
        whoComesLaterIsLeftToo();
        numbersOfDeedTold();
        whatOfDeedTold();
        justTheDoers();
        costWithoutAText();
        costHeldWithin();
        again();
        stopBounds();
        stopOrMoreWouldBeLeft();
        stopWithThoseWhoFollow();
        onlyWhoIsLeft();
        mayIsNotZero();
        mayByItsNames();
        sayRefused();
        badAheadOfNo();
        oneLieAtMostForASaying();
        lieOfOneLeftNoMore();
        choiceRefused();
        choiceOfSpeaker();
        choiceOfSureAndOrdered();
        choiceOfLoyal();
        choiceOfBought();
        choiceOfLying();
        choiceWhenNobodyIsLeft();
        roundsBounds();
        restBelowBold();
        boldByAText();
        byNumbers();
        aDrawForEach();
        noneIfThereIsNobody();
        leftWithinARound();
        due.end();
    }

    /** "DEEDS, 8 at most, numbered from 0"; "One more DEED of DOERS (bits): its number. .. FULL." */
    private static void eightAtMost() {
        NeverSaid x = Busy.speakers(12);
        for (int i = 0; i < 8; i++) {
            due.is("none has number " + i, x.deedTold(i, 1), BAD);
            due.is("number " + i, x.deed(1 << i, i, 10 + i), i);
            due.is("how many with " + i, x.count(1), i + 1);
        }
        for (int i = 0; i < 8; i++) {
            due.is("doers of " + i, x.deedTold(i, 0), 1 << i);
            due.is("hour of " + i, x.deedTold(i, 1), i);
            due.is("weight of " + i, x.deedTold(i, 2), 10 + i);
        }
        due.is("a ninth", x.deed(1, 0, 0), FULL);
        due.is("eight still", x.count(1), 8);
        refused.is("full: deed(1, 0, 0)", Busy::full, y -> y.deed(1, 0, 0), FULL);
        refused.is("full: deed(3 << 10, 23, 99)", Busy::full, y -> y.deed(3 << 10, 23, 99), FULL);
    }

    /** "BAD; FULL.": of several the one that stands first. */
    private static void badAheadOfFull() {
        refused.each("full: deed(doers, 0, 0)", Busy::full, (x, v) -> x.deed(v, 0, 0), BAD, 0, 7, 4096, 4097, MIN, -1);
        refused.each("full: deed(1, hour, 0)", Busy::full, (x, v) -> x.deed(1, v, 0), BAD, -1, 24);
        refused.each("full: deed(1, 0, weight)", Busy::full, (x, v) -> x.deed(1, 0, v), BAD, -1, 100);
    }

    /** "DOERS (one or two)": any one of twelve, any two, not none, not three. */
    private static void oneOrTwoDoers() {
        for (int a = 0; a < 12; a++) {
            NeverSaid x = Busy.speakers(12);
            due.is("by " + a, x.deed(1 << a, 0, 0), 0);
            due.is("doers", x.deedTold(0, 0), 1 << a);
            int b = (a + 5) % 12;
            due.is("by " + a + " and " + b, x.deed(1 << a | 1 << b, 0, 0), 1);
            due.is("both", x.deedTold(1, 0), 1 << a | 1 << b);
            due.is("by three", x.deed(1 << a | 1 << b | 1 << (a + 1) % 12, 0, 0), BAD);
            due.is("two deeds", x.count(1), 2);
        }
        refused.each("by none, three or more", Busy::hall, (x, v) -> x.deed(v, 0, 0), BAD, 0, 7, 73, 112, 127);
    }

    /** DOERS are of PEOPLE: the number behind the last one is nobody, nor are the bits above. */
    private static void doersWhoAreNot() {
        for (int many = 1; many <= 12; many++) {
            NeverSaid x = Busy.speakers(many);
            due.is("behind the last of " + many, x.deed(1 << many, 0, 0), BAD);
            due.is("with the one behind the last of " + many, x.deed(1 | 1 << many, 0, 0), BAD);
            due.is("the last of " + many, x.deed(1 << many - 1, 0, 0), 0);
        }
        refused.each("doers", Busy::hall, (x, v) -> x.deed(v, 0, 0), BAD, 128, 129, 1 << 12, 1 << 30, MIN, MIN + 1, -1);
        refused.is("nobody is there", NeverSaid::new, x -> x.deed(1, 0, 0), BAD);
        refused.is("nobody is there, by nobody", NeverSaid::new, x -> x.deed(0, 0, 0), BAD);
    }

    /** "an HOUR 0 .. 23". */
    private static void hourOfADeed() {
        NeverSaid x = Busy.speakers(1);
        int[] good = {0, 1, 22, 23};
        for (int i = 0; i < good.length; i++) {
            due.is("hour " + good[i], x.deed(1, good[i], 0), i);
            due.is("told " + good[i], x.deedTold(i, 1), good[i]);
        }
        refused.each("deed(1, hour, 0)", Busy::hall, (y, v) -> y.deed(1, v, 0), BAD, -1, 24, 32, MIN, MAX);
    }

    /** "a WEIGHT 0 .. 99". */
    private static void weightOfADeed() {
        NeverSaid x = Busy.speakers(1);
        int[] good = {0, 1, 98, 99};
        for (int i = 0; i < good.length; i++) {
            due.is("weight " + good[i], x.deed(1, 0, good[i]), i);
            due.is("told " + good[i], x.deedTold(i, 2), good[i]);
        }
        refused.each("deed(1, 0, weight)", Busy::hall, (y, v) -> y.deed(1, 0, v), BAD, -1, 100, 101, MIN, MAX);
    }

    /** "LEFT: all PEOPLE at first .., SAYINGS, LIES (0 at first)", though others were spoken of on other DEEDS. */
    private static void asAtFirst() {
        for (int many = 1; many <= 12; many++) {
            NeverSaid x = Busy.speakers(many);
            x.stop(0);
            x.deed(1, 0, 9);
            x.say(0, 0, 0);
            x.deed(1, 0, 9);
            due.is("left of " + many, x.deedTold(1, 3), (1 << many) - 1);
            due.is("sayings", x.deedTold(1, 4), 0);
            due.is("lies", x.deedTold(1, 5), 0);
        }
    }

    /** "(who comes later is LEFT, too)": one by one and dealt, on all DEEDS. */
    private static void whoComesLaterIsLeftToo() {
        NeverSaid x = Busy.speakers(3);
        x.stop(0);
        x.deed(1, 0, 0);
        x.deed(1, 0, 0);
        for (int p = 0; p < 3; p++) {
            x.say(0, 1, p);
        }
        x.person(5, 9);
        due.is("with all others", x.deedTold(0, 3), 15);
        due.is("alone", x.deedTold(1, 3), 8);
        x.deal(12);
        due.is("all twelve", x.deedTold(0, 3), 4095);
        due.is("all but three", x.deedTold(1, 3), 4088);
    }

    /** "deedTold: Of a DEED .. BAD.": the least and the greatest number, and those beside them. */
    private static void numbersOfDeedTold() {
        NeverSaid x = Busy.speakers(2);
        for (int many = 1; many <= 8; many++) {
            x.deed(1, many, 0);
            due.is("the first of " + many, x.deedTold(0, 1), 1);
            due.is("the last of " + many, x.deedTold(many - 1, 1), many);
            due.is("behind the last of " + many, x.deedTold(many, 1), BAD);
            due.is("ahead of the first of " + many, x.deedTold(-1, 1), BAD);
        }
        refused.each("deedTold(deed, 0)", Busy::hall, (y, v) -> y.deedTold(v, 0), BAD, -1, 3, 8, MIN, MAX);
        refused.each("full: deedTold(deed, 0)", Busy::full, (y, v) -> y.deedTold(v, 0), BAD, -1, 8);
    }

    /** "what 0 DOERS, .. 7 whether just the DOERS are LEFT (1, 0). BAD." */
    private static void whatOfDeedTold() {
        NeverSaid x = Busy.speakers(5);
        x.deed(24, 22, 98);
        x.say(0, 0, 4);
        x.say(0, 0, 0);
        int[] told = {24, 22, 98, 14, 2, 1, 98, 0};
        for (int what = 0; what < 8; what++) {
            due.is("deedTold(0, " + what + ")", x.deedTold(0, what), told[what]);
        }
        refused.each("deedTold(0, what)", Busy::hall, (y, v) -> y.deedTold(0, v), BAD, -1, 8, 9, MIN, MAX);
    }

    /** "7 whether just the DOERS are LEFT (1, 0)". */
    private static void justTheDoers() {
        NeverSaid x = Busy.speakers(4);
        x.stop(0);
        x.deed(9, 0, 0);
        int[] goes = {1, 2, 3, 0};
        int[] just = {0, 1, 0, 0};
        due.is("all are left", x.deedTold(0, 7), 0);
        for (int i = 0; i < 4; i++) {
            x.say(0, 0, goes[i]);
            due.is("without " + goes[i], x.deedTold(0, 7), just[i]);
        }
        NeverSaid y = Busy.speakers(2);
        y.stop(0);
        y.deed(3, 0, 0);
        y.deed(1, 0, 0);
        due.is("all are doers", y.deedTold(0, 7), 1);
        y.say(0, 1, 0);
        due.is("just another one", y.deedTold(1, 7), 0);
    }

    /** "COST .. (without a TEXT: LIES times WEIGHT)": WEIGHT 0 and 99, LIES 0 and as many as can be. */
    private static void costWithoutAText() {
        for (int weight : new int[] {0, 1, 99}) {
            NeverSaid x = Busy.speakers(12);
            x.stop(0);
            x.deed(1, 0, weight);
            for (int p = 1; p < 12; p++) {
                x.follow(p, 0, 1);
            }
            due.is("no lies", x.deedTold(0, 6), 0);
            for (int p = 0; p < 12; p++) {
                x.say(0, 0, p);
                due.is("lies", x.deedTold(0, 5), p + 1);
                due.is("cost", x.deedTold(0, 6), (p + 1) * weight);
            }
        }
    }

    /** "what cost gives, held within 0 .. 99999". */
    private static void costHeldWithin() {
        String[] laws = {"0-1", "0", "1", "9999*10+8", "9999*10+9", "9999*10+10", "2048*1024*1024-1", "2048*1024*1024"};
        int[] cost = {0, 0, 1, 99998, 99999, 99999, 99999, 0};
        for (int i = 0; i < laws.length; i++) {
            NeverSaid x = Busy.speakers(2);
            x.deed(1, 0, 50);
            Due.text(x, "cost " + laws[i]);
            due.is("cost of " + laws[i], x.deedTold(0, 6), cost[i]);
        }
    }

    /** "All are LEFT on a DEED, SAYINGS, LIES are 0: how many were not. BAD." */
    private static void again() {
        for (int gone = 0; gone <= 12; gone++) {
            NeverSaid x = Busy.speakers(12);
            x.stop(0);
            x.deed(3, 4, 5);
            x.deed(3, 4, 5);
            x.say(0, 1, 11);
            for (int p = 0; p < gone; p++) {
                x.say(0, 0, p);
            }
            due.is("how many were not", x.again(0), gone);
            int[] told = {3, 4, 5, 4095, 0, 0, 0, 0};
            for (int what = 0; what < 8; what++) {
                due.is("told then, " + what, x.deedTold(0, what), told[what]);
            }
            due.is("none then", x.again(0), 0);
            due.is("the other one stays", x.deedTold(1, 3), 2047);
        }
        refused.each("again(deed)", Busy::hall, (x, v) -> x.again(v), BAD, -1, 3, 8, MIN, MAX);
        refused.each("full: again(deed)", Busy::full, (x, v) -> x.again(v), BAD, -1, 8);
        refused.is("without deeds", NeverSaid::new, x -> x.again(0), BAD);
    }

    /** "STOP is 0 .. 4"; "STOP becomes v: what it was. BAD." */
    private static void stopBounds() {
        NeverSaid x = new NeverSaid();
        int was = 2;
        for (int v : new int[] {0, 1, 3, 4, 4, 0, 2}) {
            due.is("stop(" + v + ")", x.stop(v), was);
            due.is("stop is", x.count(2), v);
            was = v;
        }
        refused.each("stop(v)", Busy::hall, (y, v) -> y.stop(v), BAD, -1, 5, 6, MIN, MAX);
    }

    /** "It MAY BE, if .. STOP or more would be LEFT then": down to STOP, not below. */
    private static void stopOrMoreWouldBeLeft() {
        for (int stop = 0; stop <= 4; stop++) {
            NeverSaid x = Busy.speakers(6);
            x.stop(stop);
            x.deed(32, 0, 0);
            for (int p = 0; p < 6; p++) {
                int left = 5 - p;
                due.is("chosen with stop " + stop, x.choice(0, 0), left >= stop ? p : NONE);
                due.is("say of " + p + " with stop " + stop, x.say(0, 0, p), left >= stop ? left : NO);
            }
            due.is("left with stop " + stop, Integer.bitCount(x.deedTold(0, 3)), stop);
            due.is("sayings with stop " + stop, x.deedTold(0, 4), 6 - stop);
        }
        for (int many = 1; many <= 2; many++) {
            NeverSaid x = Busy.speakers(many);
            x.deed(1, 0, 0);
            due.is("fewer than stop already, or just as many", x.say(0, 0, 0), NO);
        }
    }

    /** The same, where several GO at once; who is LEFT no more is not counted twice. */
    private static void stopWithThoseWhoFollow() {
        for (int stop = 0; stop <= 4; stop++) {
            for (int behind = 0; behind <= 5; behind++) {
                NeverSaid x = Busy.speakers(6);
                x.stop(stop);
                x.deed(32, 0, 0);
                for (int p = 0; p < behind; p++) {
                    x.follow(p, p + 1, 1);
                }
                int left = 5 - behind;
                due.is(behind + " behind, stop " + stop, x.say(0, 0, 0), left >= stop ? left : NO);
            }
        }
        NeverSaid x = Busy.speakers(4);
        x.deed(8, 0, 0);
        x.say(0, 0, 1);
        x.follow(0, 1, 1);
        due.is("one goes with one who went before", x.say(0, 0, 0), 2);
    }

    /** "It MAY BE, if p is LEFT": not a second time, not of one who went with another; who speaks need not be. */
    private static void onlyWhoIsLeft() {
        NeverSaid x = Busy.speakers(6);
        x.stop(0);
        x.deed(1, 0, 0);
        x.follow(5, 4, 1);
        due.is("two go", x.say(0, 0, 5), 4);
        due.is("again", x.say(0, 0, 5), NO);
        due.is("of one who went with it", x.say(0, 0, 4), NO);
        due.is("sayings", x.deedTold(0, 4), 1);
        due.is("by one who went, of another one", x.say(5, 0, 3), 3);
        due.is("of oneself", x.say(2, 0, 2), 2);
    }

    /** "may gives what is not 0 (without a TEXT: it is not asked)". */
    private static void mayIsNotZero() {
        String[] laws = {"0", "1", "0-1", "2", "9999", "256*256*256*256", "2048*1024*1024", "1-1", "!1", "!0"};
        boolean[] lets = {false, true, true, true, true, false, true, false, false, true};
        for (int i = 0; i < laws.length; i++) {
            NeverSaid x = Busy.speakers(4);
            x.deed(1, 0, 0);
            due.is("text", Due.text(x, "may " + laws[i]), 0);
            due.is("choice by may " + laws[i], x.choice(0, 0), lets[i] ? 0 : NONE);
            due.is("say by may " + laws[i], x.say(0, 0, 3), lets[i] ? 3 : NO);
        }
        NeverSaid x = Busy.speakers(4);
        x.deed(1, 0, 0);
        Due.text(x, "bold 0");
        Due.text(x, "cost 0");
        due.is("without a text of may", x.say(0, 0, 3), 3);
    }

    /** "of may s, p the SPEAKER, of whom (numbers), w WEIGHT": with the least and the greatest of each. */
    private static void mayByItsNames() {
        for (int s : new int[] {0, 1, 10, 11}) {
            for (int weight : new int[] {0, 1, 98, 99}) {
                NeverSaid x = Busy.speakers(12);
                x.deed(1, 0, weight);
                Due.text(x, "may s=" + s + "&p=" + (11 - s) + "&w=" + weight);
                due.is("another speaker", x.say(s == 5 ? 6 : 5, 0, 11 - s), NO);
                due.is("of another one", x.say(s, 0, 5), NO);
                due.is("this one of that one", x.say(s, 0, 11 - s), 11);
            }
        }
    }

    /** "BAD; NO: it MAY not BE.": nothing is otherwise then. */
    private static void sayRefused() {
        refused.each("say(s, 0, 1)", Busy::hall, (x, v) -> x.say(v, 0, 1), BAD, -1, 7, 12, MIN, MAX);
        refused.each("say(0, deed, 1)", Busy::hall, (x, v) -> x.say(0, v, 1), BAD, -1, 3, 8, MIN, MAX);
        refused.each("say(0, 1, p)", Busy::hall, (x, v) -> x.say(0, 1, v), BAD, -1, 7, 12, MIN, MAX);
        refused.each("full: say(s, 0, 1)", Busy::full, (x, v) -> x.say(v, 0, 1), BAD, -1, 12);
        refused.each("full: say(0, deed, 1)", Busy::full, (x, v) -> x.say(0, v, 1), BAD, -1, 8);
        refused.each("full: say(0, 0, p)", Busy::full, (x, v) -> x.say(0, 0, v), BAD, -1, 12);
        refused.is("one who is left no more", Busy::hall, x -> x.say(0, 1, 4), NO);
        refused.is("the text says no", Busy::hall, x -> x.say(6, 1, 5), NO);
        refused.is("too few would be left", DeedsEdgesTest::fewAreLeft, x -> x.say(0, 1, 0), NO);
    }

    private static NeverSaid fewAreLeft() {
        NeverSaid x = Busy.hall();
        x.stop(4);
        for (int p = 0; p < 4; p++) {
            x.follow(p, p + 1, 1);
        }
        return x;
    }

    /** "BAD; NO": of several the one that stands first, whichever of the three is BAD. */
    private static void badAheadOfNo() {
        refused.each("the text says no to all: say(s, 1, 5)", NO_TO_ALL, (x, v) -> x.say(v, 1, 5), BAD, -1, 7);
        refused.each("the text says no to all: say(0, deed, 5)", NO_TO_ALL, (x, v) -> x.say(0, v, 5), BAD, -1, 3);
        refused.each("the text says no to all: say(0, 1, p)", NO_TO_ALL, (x, v) -> x.say(0, 1, v), BAD, -1, 7);
        refused.is("the text says no to all: say(0, 1, 5)", NO_TO_ALL, x -> x.say(0, 1, 5), NO);
        refused.is("without deeds", () -> Busy.speakers(4), x -> x.say(0, 0, 1), BAD);
    }

    private static NeverSaid noToAll() {
        NeverSaid x = Busy.hall();
        x.trim(0);
        Due.text(x, "may 0");
        return x;
    }

    /** "LIES too, if a DOER is among these": one more, though both DOERS GO. */
    private static void oneLieAtMostForASaying() {
        NeverSaid x = Busy.speakers(6);
        x.deed(3, 0, 7);
        x.follow(0, 1, 1);
        due.is("both go", x.say(5, 0, 0), 4);
        due.is("one lie", x.deedTold(0, 5), 1);
        due.is("one saying", x.deedTold(0, 4), 1);
        x.say(5, 0, 2);
        due.is("no lie", x.deedTold(0, 5), 1);
        due.is("two sayings", x.deedTold(0, 4), 2);
    }

    /** "(one who was LEFT no more, too)". */
    private static void lieOfOneLeftNoMore() {
        NeverSaid x = Busy.speakers(6);
        x.stop(0);
        x.deed(1, 0, 7);
        x.say(5, 0, 0);
        x.follow(2, 1, 1);
        x.follow(1, 0, 1);
        x.say(5, 0, 2);
        due.is("a doer goes by 2, who went before", x.deedTold(0, 5), 2);
        due.is("left", x.deedTold(0, 3), 56);
        x.follow(0, 3, 1);
        x.say(5, 0, 3);
        due.is("by who follows from the doer the doer does not go", x.deedTold(0, 5), 2);
    }

    /** "choice .. BAD; NONE: nobody." */
    private static void choiceRefused() {
        refused.each("choice(s, 0)", Busy::hall, (x, v) -> x.choice(v, 0), BAD, -1, 7, 12, MIN, MAX);
        refused.each("choice(0, deed)", Busy::hall, (x, v) -> x.choice(0, v), BAD, -1, 3, 8, MIN, MAX);
        refused.each("full: choice(s, 0)", Busy::full, (x, v) -> x.choice(v, 0), BAD, -1, 12);
        refused.each("full: choice(0, deed)", Busy::full, (x, v) -> x.choice(0, v), BAD, -1, 8);
        refused.each("nobody for whom: choice(s, 1)", NO_TO_ALL, (x, v) -> x.choice(v, 1), BAD, -1, 7);
        refused.each("nobody for whom: choice(s, 1)", NO_TO_ALL, (x, v) -> x.choice(v, 1), NONE, 0, 6);
        refused.is("a choice that there is", Busy::hall, x -> x.choice(0, 1), 0);
    }

    /** So many people of one kind, BOLD 50, STOP 0, and a deed of weight 50. */
    private static NeverSaid kind(int kind, int many, int doers) {
        NeverSaid x = new NeverSaid();
        for (int i = 0; i < many; i++) {
            x.person(kind, 50);
        }
        x.stop(0);
        x.deed(doers, 0, 50);
        return x;
    }

    /** "SPEAKER: the least number", of 0 and of 11 alone. */
    private static void choiceOfSpeaker() {
        NeverSaid x = kind(SPEAKER, 12, 1);
        for (int p = 0; p < 12; p++) {
            due.is("the least", x.choice(11 - p, 0), p);
            x.say(0, 0, p);
        }
        due.is("nobody", x.choice(0, 0), NONE);
    }

    /** "SURE: the least by whom no DOER GOES. ORDERED: the greatest such.": nobody, if there is none. */
    private static void choiceOfSureAndOrdered() {
        NeverSaid sure = kind(SURE, 12, 1 | 1 << 11);
        NeverSaid ordered = kind(ORDERED, 12, 1 | 1 << 11);
        for (int p = 1; p < 11; p++) {
            due.is("sure", sure.choice(0, 0), p);
            due.is("ordered", ordered.choice(0, 0), 11 - p);
            sure.follow(p, p % 2 == 0 ? 0 : 11, 1);
            ordered.follow(11 - p, p % 2 == 0 ? 0 : 11, 1);
        }
        due.is("sure: nobody, though it may be", sure.choice(0, 0), NONE);
        due.is("ordered: nobody, though it may be", ordered.choice(0, 0), NONE);
        NeverSaid first = kind(ORDERED, 12, 1 << 11);
        for (int p = 10; p >= 0; p--) {
            due.is("ordered, down to the first", first.choice(11, 0), p);
            first.say(0, 0, p);
        }
        due.is("ordered, the doer alone is left", first.choice(11, 0), NONE);
        NeverSaid none = kind(SURE, 2, 3);
        due.is("sure, all are doers", none.choice(0, 0), NONE);
        none.turns(0, ORDERED);
        due.is("ordered, all are doers", none.choice(0, 0), NONE);
    }

    /** "LOYAL: the least of his FRIENDS of these; if there is none, as SPEAKER." */
    private static void choiceOfLoyal() {
        NeverSaid x = kind(LOYAL, 12, 1);
        due.is("no friends", x.choice(5, 0), 0);
        for (int p = 11; p >= 0; p--) {
            if (p != 5) {
                x.friend(5, p, 1);
                due.is("the least friend", x.choice(5, 0), p);
            }
        }
        NeverSaid y = kind(LOYAL, 12, 1);
        y.friend(5, 11, 1);
        due.is("a friend", y.choice(5, 0), 11);
        Due.text(y, "may p<11");
        due.is("a friend of whom it may not be", y.choice(5, 0), 0);
        Due.text(y, "may p=7");
        due.is("as a speaker", y.choice(5, 0), 7);
        Due.text(y, "may 0");
        due.is("nobody", y.choice(5, 0), NONE);
    }

    /** "BOUGHT: nobody, if WEIGHT is above his BOLD; else as LOYAL." */
    private static void choiceOfBought() {
        int[][] cases = {{0, 0}, {0, 1}, {1, 0}, {98, 99}, {99, 99}, {100, 99}, {49, 50}, {50, 50}, {51, 50}};
        for (int[] c : cases) {
            NeverSaid x = new NeverSaid();
            x.person(BOUGHT, c[0]);
            x.person(SPEAKER, 0);
            x.person(SPEAKER, 0);
            x.stop(0);
            x.deed(1, 0, c[1]);
            boolean speaks = c[1] <= c[0];
            due.is("bold " + c[0] + ", weight " + c[1], x.choice(0, 0), speaks ? 0 : NONE);
            x.friend(0, 2, 1);
            due.is("with a friend, bold " + c[0] + ", weight " + c[1], x.choice(0, 0), speaks ? 2 : NONE);
            due.is("another one's bold does not matter", x.choice(1, 0), 0);
        }
    }

    /** "LYING: the least by whom a DOER GOES; if there is none, as SPEAKER." */
    private static void choiceOfLying() {
        NeverSaid x = kind(LYING, 12, 1 << 11);
        due.is("the doer", x.choice(0, 0), 11);
        for (int p = 10; p >= 0; p--) {
            x.follow(p, p + 1, 1);
            due.is("the least by whom the doer goes", x.choice(3, 0), p);
        }
        NeverSaid y = kind(LYING, 4, 8);
        y.say(0, 0, 3);
        due.is("as a speaker", y.choice(0, 0), 0);
        y.follow(2, 3, 1);
        due.is("a doer goes by 2, though left no more", y.choice(0, 0), 2);
        Due.text(y, "may p<2");
        due.is("of that one it may not be", y.choice(0, 0), 0);
    }

    /** Nobody is LEFT: nobody to speak of, for all kinds; neither by lot. */
    private static void choiceWhenNobodyIsLeft() {
        for (int kind = 0; kind < 6; kind++) {
            NeverSaid x = kind(kind, 2, 1);
            x.say(0, 0, 0);
            x.say(0, 0, 1);
            due.is("choice of kind " + kind, x.choice(0, 0), NONE);
            due.is("rounds of kind " + kind, x.rounds(0, 40), 0);
            due.is("sayings", x.deedTold(0, 4), 2);
        }
    }

    /** "n (1 .. 40) ROUNDS on a DEED: how many SAYINGS there were. BAD." */
    private static void roundsBounds() {
        for (int n : new int[] {1, 2, 39, 40}) {
            NeverSaid x = Busy.speakers(3);
            x.deed(1, 0, 0);
            Due.text(x, "bold 0");
            due.is("rounds(0, " + n + ")", x.rounds(0, n), 0);
            due.is("three draws in each", x.count(8), drawn(1, 3 * n));
        }
        refused.each("rounds(0, n)", Busy::hall, (x, v) -> x.rounds(0, v), BAD, -1, 0, 41, MIN, MAX);
        refused.each("rounds(deed, 1)", Busy::hall, (x, v) -> x.rounds(v, 1), BAD, -1, 3, 8, MIN, MAX);
        refused.each("full: rounds(deed, 1)", Busy::full, (x, v) -> x.rounds(v, 1), BAD, -1, 8);
        refused.is("rounds without deeds", () -> Busy.speakers(3), x -> x.rounds(0, 1), BAD);
    }

    private static int drawn(int z, int draws) {
        int then = z;
        for (int i = 0; i < draws; i++) {
            then = then * 1103515245 + 12345;
        }
        return then;
    }

    /** A seed whose next draw has this rest by 100, and leaves z below 0 or not. */
    private static int seedFor(int rest, boolean below) {
        for (int z = 0; z < 1000000; z++) {
            if ((drawn(z, 1) >>> 8) % 100 == rest && drawn(z, 1) < 0 == below) {
                return z;
            }
        }
        throw new IllegalStateException("no seed for " + rest);
    }

    /** One speaker alone, with a draw of this rest to come. */
    private static NeverSaid alone(int rest, boolean below) {
        NeverSaid x = Busy.speakers(1);
        x.stop(0);
        x.deed(1, 0, 0);
        x.seed(seedFor(rest, below));
        return x;
    }

    /** "one speaks, if its rest by 100 is below what bold gives .. (without a TEXT: BOLD)". */
    private static void restBelowBold() {
        for (int rest : new int[] {0, 1, 49, 50, 98, 99}) {
            for (int bold : new int[] {0, rest - 1, rest, rest + 1, 100}) {
                if (bold >= 0) {
                    for (int below = 0; below < 2; below++) {
                        NeverSaid x = alone(rest, below == 1);
                        x.bolder(0, bold);
                        due.is("rest " + rest + ", bold " + bold, x.rounds(0, 1), rest < bold ? 1 : 0);
                    }
                }
            }
        }
    }

    /** "what bold gives, held within 0 .. 100", with the least and the greatest that it can give. */
    private static void boldByAText() {
        String[] laws = {"0-1", "0", "1", "99", "100", "101", "2048*1024*1024-1", "2048*1024*1024", "b", "b-50",
            "b+50"};
        int[] gives = {0, 0, 1, 99, 100, 100, 100, 0, 50, 0, 100};
        for (int rest : new int[] {0, 1, 49, 50, 98, 99}) {
            for (int i = 0; i < laws.length; i++) {
                NeverSaid x = alone(rest, false);
                Due.text(x, "bold " + laws[i]);
                due.is("rest " + rest + ", bold " + laws[i], x.rounds(0, 1), rest < gives[i] ? 1 : 0);
                due.is("bold stays", x.told(0, 1), 50);
            }
        }
    }

    /** "all PEOPLE by numbers": the first ones speak, till STOP ends it. */
    private static void byNumbers() {
        NeverSaid x = Busy.speakers(12);
        x.deed(1, 0, 0);
        x.stop(4);
        Due.text(x, "may s=p");
        Due.text(x, "bold 100");
        due.is("eight of twelve", x.rounds(0, 1), 8);
        due.is("the last four are left", x.deedTold(0, 3), 15 << 8);
        due.is("one lie", x.deedTold(0, 5), 1);
        due.is("no more", x.rounds(0, 40), 0);
    }

    /** "all PEOPLE by numbers: a draw": whether one speaks, finds somebody, or not. */
    private static void aDrawForEach() {
        for (int bold : new int[] {0, 100}) {
            NeverSaid x = new NeverSaid();
            for (int i = 0; i < 12; i++) {
                x.person(i % 6, bold);
            }
            x.deed(1, 0, 99);
            x.seed(MIN);
            x.rounds(0, 1);
            due.is("twelve draws", x.count(8), drawn(MIN, 12));
            x.rounds(0, 40);
            due.is("twelve draws in each round", x.count(8), drawn(MIN, 12 * 41));
        }
    }

    /** "a SAYING of its CHOICE (none, if there is nobody)": BOUGHT and SURE keep silent, though they would speak. */
    private static void noneIfThereIsNobody() {
        NeverSaid x = new NeverSaid();
        x.person(BOUGHT, 0);
        x.person(SURE, 0);
        x.stop(0);
        x.deed(3, 0, 1);
        Due.text(x, "bold 100");
        due.is("nobody speaks", x.rounds(0, 40), 0);
        due.is("all are left", x.deedTold(0, 3), 3);
        due.is("sayings of all", x.count(3), 0);
    }

    /** "n how many are LEFT": when one's turn comes. */
    private static void leftWithinARound() {
        NeverSaid x = Busy.speakers(6);
        x.stop(0);
        x.deed(1, 0, 0);
        Due.text(x, "bold (n=6-s)*100");
        due.is("each finds one less", x.rounds(0, 1), 6);
        due.is("nobody is left", x.deedTold(0, 3), 0);
        NeverSaid y = Busy.speakers(6);
        y.deed(1, 0, 0);
        Due.text(y, "bold (n=6)*100");
        due.is("the first one alone", y.rounds(0, 1), 1);
    }
}
