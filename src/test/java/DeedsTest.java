/** Promises 12 to 18: deeds, sayings, choices, rounds. */
public final class DeedsTest {
    private static final int BAD = NeverSaid.BAD, NO = NeverSaid.NO, FULL = NeverSaid.FULL, NONE = NeverSaid.NONE;
    private static final int SPEAKER = 0, SURE = 1, LOYAL = 2, ORDERED = 3, BOUGHT = 4, LYING = 5;
    private static final Due due = new Due();

    public static void main(String[] args) {
        deed();
        deedTold();
        again();
        stop();
        say();
        sayByText();
        liesOfOneWhoWentBefore();
        choiceOfTruth();
        choiceOfFriends();
        choiceOfLies();
        choiceByText();
        rounds();
        roundsByText();
        due.end();
    }

    /** An object with so many speakers. */
    private static NeverSaid speakers(int many) {
        NeverSaid x = new NeverSaid();
        for (int i = 0; i < many; i++) {
            x.person(SPEAKER, 50);
        }
        return x;
    }

    private static void deed() {
        NeverSaid x = speakers(4);
        due.is("nobody did it", x.deed(0, 0, 0), BAD);
        due.is("three did it", x.deed(7, 0, 0), BAD);
        due.is("one who is not there", x.deed(16, 0, 0), BAD);
        due.is("one of two is not there", x.deed(17, 0, 0), BAD);
        due.is("the highest bit", x.deed(Integer.MIN_VALUE, 0, 0), BAD);
        due.is("hour 24", x.deed(1, 24, 0), BAD);
        due.is("hour -1", x.deed(1, -1, 0), BAD);
        due.is("weight 100", x.deed(1, 0, 100), BAD);
        due.is("weight -1", x.deed(1, 0, -1), BAD);
        for (int i = 0; i < 8; i++) {
            due.is("deed " + i, x.deed(i % 2 == 0 ? 8 : 12, 23 * (i % 2), 99 * (i % 2)), i);
        }
        due.is("a ninth", x.deed(1, 0, 0), FULL);
        due.is("a bad ninth", x.deed(0, 0, 0), BAD);
        due.is("eight", x.count(1), 8);
    }

    private static void deedTold() {
        NeverSaid x = speakers(4);
        x.deed(5, 23, 99);
        int[] want = {5, 23, 99, 15, 0, 0, 0, 0};
        for (int what = 0; what < 8; what++) {
            due.is("deedTold(0, " + what + ")", x.deedTold(0, what), want[what]);
        }
        x.say(0, 0, 1);
        x.say(0, 0, 3);
        due.is("left", x.deedTold(0, 3), 5);
        due.is("sayings", x.deedTold(0, 4), 2);
        due.is("lies", x.deedTold(0, 5), 0);
        due.is("just the doers", x.deedTold(0, 7), 1);
        x.person(0, 0);
        due.is("who comes later is left, too", x.deedTold(0, 3), 21);
        due.is("not just the doers", x.deedTold(0, 7), 0);
        x.say(0, 0, 2);
        due.is("a lie's cost", x.deedTold(0, 6), 99);
        x.stop(0);
        x.say(0, 0, 0);
        due.is("two lies' cost", x.deedTold(0, 6), 198);
        due.is("fewer than the doers", x.deedTold(0, 7), 0);
        Due.text(x, "cost l*100000+w+n");
        due.is("the text is at fault", x.why(1), NONE);
        Due.text(x, "cost l*1000+w*10+n");
        due.is("cost by a text", x.deedTold(0, 6), 2991);
        Due.text(x, "cost 0-l");
        due.is("cost held from below", x.deedTold(0, 6), 0);
        Due.text(x, "cost 9999*w");
        due.is("cost held from above", x.deedTold(0, 6), 99999);
        due.is("deedTold(0, 8)", x.deedTold(0, 8), BAD);
        due.is("deedTold(0, -1)", x.deedTold(0, -1), BAD);
        due.is("deedTold(1, 0)", x.deedTold(1, 0), BAD);
        due.is("deedTold(-1, 0)", x.deedTold(-1, 0), BAD);
    }

    private static void again() {
        NeverSaid x = speakers(5);
        x.deed(1, 0, 9);
        x.deed(1, 0, 9);
        x.follow(0, 1, 1);
        x.say(4, 0, 0);
        x.say(4, 1, 3);
        due.is("again(0)", x.again(0), 2);
        due.is("all are left", x.deedTold(0, 3), 31);
        due.is("no sayings", x.deedTold(0, 4), 0);
        due.is("no lies", x.deedTold(0, 5), 0);
        due.is("the other stays", x.deedTold(1, 3), 23);
        due.is("again(0) again", x.again(0), 0);
        due.is("again(2)", x.again(2), BAD);
        due.is("again(-1)", x.again(-1), BAD);
    }

    private static void stop() {
        NeverSaid x = speakers(6);
        x.deed(1, 0, 0);
        due.is("stop(4)", x.stop(4), 2);
        due.is("stop(5)", x.stop(5), BAD);
        due.is("stop(-1)", x.stop(-1), BAD);
        due.is("count(2)", x.count(2), 4);
        due.is("five left", x.say(0, 0, 0), 5);
        due.is("four left", x.say(0, 0, 1), 4);
        due.is("not three", x.say(0, 0, 2), NO);
        due.is("stop(0)", x.stop(0), 4);
        for (int p = 2; p < 6; p++) {
            due.is("left down to none", x.say(0, 0, p), 5 - p);
        }
        due.is("none are left", x.deedTold(0, 3), 0);
    }

    private static void say() {
        NeverSaid x = speakers(6);
        x.deed(1, 0, 0);
        due.is("s is not there", x.say(6, 0, 1), BAD);
        due.is("s below 0", x.say(-1, 0, 1), BAD);
        due.is("no such deed", x.say(0, 1, 1), BAD);
        due.is("p is not there", x.say(0, 0, 6), BAD);
        due.is("p below 0", x.say(0, 0, -1), BAD);
        x.follow(2, 3, 1);
        x.follow(3, 4, 1);
        due.is("three go", x.say(5, 0, 2), 3);
        due.is("left", x.deedTold(0, 3), 35);
        due.is("a saying", x.deedTold(0, 4), 1);
        due.is("no lie", x.deedTold(0, 5), 0);
        due.is("gone already", x.say(5, 0, 4), NO);
        due.is("of oneself, by one who is gone", x.say(2, 0, 5), 2);
        due.is("ahead of the last two", x.say(2, 0, 1), NO);
        due.is("two sayings", x.deedTold(0, 4), 2);
    }

    private static void sayByText() {
        NeverSaid x = speakers(5);
        x.deed(1, 0, 7);
        Due.text(x, "may s<p&w=7");
        due.is("say(2, 0, 1)", x.say(2, 0, 1), NO);
        due.is("say(2, 0, 2)", x.say(2, 0, 2), NO);
        due.is("say(2, 0, 3)", x.say(2, 0, 3), 4);
        Due.text(x, "may 0-1");
        due.is("what is not 0 is enough", x.say(2, 0, 1), 3);
        Due.text(x, "may 0");
        due.is("0 is not", x.say(2, 0, 2), NO);
    }

    private static void liesOfOneWhoWentBefore() {
        NeverSaid x = speakers(6);
        x.deed(1, 0, 3);
        x.follow(1, 0, 1);
        x.follow(2, 0, 1);
        x.say(5, 0, 1);
        due.is("a lie", x.deedTold(0, 5), 1);
        x.say(5, 0, 2);
        due.is("a lie of one who was left no more", x.deedTold(0, 5), 2);
        x.say(5, 0, 3);
        due.is("no lie", x.deedTold(0, 5), 2);
        due.is("lies of all deeds", x.count(4), 2);
        due.is("sayings of all deeds", x.count(3), 3);
    }

    private static void choiceOfTruth() {
        NeverSaid x = new NeverSaid();
        x.person(SPEAKER, 0);
        x.person(SURE, 0);
        x.person(ORDERED, 0);
        x.person(SPEAKER, 0);
        x.deed(1, 0, 0);
        x.deed(8, 0, 0);
        due.is("speaker", x.choice(0, 0), 0);
        due.is("sure", x.choice(1, 0), 1);
        due.is("ordered", x.choice(2, 1), 2);
        x.follow(1, 0, 1);
        due.is("sure, by whom no doer goes", x.choice(1, 0), 2);
        x.follow(2, 3, 1);
        due.is("ordered, by whom no doer goes and two are left", x.choice(2, 1), 1);
        x.say(0, 0, 2);
        due.is("sure: nobody", x.choice(1, 0), NONE);
        due.is("ordered: nobody", x.choice(2, 0), NONE);
        due.is("no such person", x.choice(4, 0), BAD);
        due.is("no such deed", x.choice(0, 2), BAD);
        due.is("below 0", x.choice(-1, 0), BAD);
        due.is("deed below 0", x.choice(0, -1), BAD);
    }

    private static void choiceOfFriends() {
        NeverSaid x = new NeverSaid();
        x.person(SPEAKER, 0);
        x.person(LOYAL, 0);
        x.person(BOUGHT, 40);
        x.person(SPEAKER, 0);
        x.person(SPEAKER, 0);
        x.deed(1, 0, 40);
        x.deed(1, 0, 41);
        due.is("loyal without friends", x.choice(1, 0), 0);
        due.is("bought without friends", x.choice(2, 0), 0);
        for (int friend = 3; friend < 5; friend++) {
            x.friend(1, friend, 1);
            x.friend(friend, 2, 1);
        }
        due.is("loyal", x.choice(1, 0), 3);
        due.is("bought", x.choice(2, 0), 3);
        due.is("bought, too heavy", x.choice(2, 1), NONE);
        due.is("loyal, heavy", x.choice(1, 1), 3);
        x.say(0, 0, 3);
        due.is("loyal, the next friend", x.choice(1, 0), 4);
        x.say(0, 0, 4);
        due.is("loyal, no friend left", x.choice(1, 0), 0);
        due.is("bought, no friend left", x.choice(2, 0), 0);
    }

    private static void choiceOfLies() {
        NeverSaid x = new NeverSaid();
        x.person(SPEAKER, 0);
        x.person(SPEAKER, 0);
        x.person(SPEAKER, 0);
        x.person(LYING, 0);
        x.deed(4, 0, 0);
        due.is("lying", x.choice(3, 0), 2);
        x.follow(1, 2, 1);
        due.is("lying, by whom a doer goes", x.choice(3, 0), 1);
        x.say(0, 0, 2);
        due.is("lying, of one by whom a doer goes who is gone", x.choice(3, 0), 1);
        x.say(0, 0, 1);
        due.is("lying, too few left", x.choice(3, 0), NONE);
        x.stop(1);
        due.is("lying, no lie left", x.choice(3, 0), 0);
    }

    private static void choiceByText() {
        NeverSaid x = new NeverSaid();
        int[] kinds = {SPEAKER, SURE, LOYAL, ORDERED, BOUGHT, LYING};
        for (int kind : kinds) {
            x.person(kind, 50);
        }
        x.deed(1, 0, 50);
        Due.text(x, "may (p>1)&(p<5)&!(s=2)");
        int[] want = {2, 2, NONE, 4, 2, 2};
        for (int s = 0; s < 6; s++) {
            due.is("choice(" + s + ", 0) by a text", x.choice(s, 0), want[s]);
        }
    }

    private static void rounds() {
        NeverSaid x = new NeverSaid();
        x.person(SPEAKER, 100);
        x.person(SPEAKER, 0);
        x.person(SURE, 100);
        x.person(SPEAKER, 100);
        x.deed(1, 0, 0);
        due.is("rounds(0, 0)", x.rounds(0, 0), BAD);
        due.is("rounds(0, 41)", x.rounds(0, 41), BAD);
        due.is("rounds(1, 1)", x.rounds(1, 1), BAD);
        due.is("rounds(-1, 1)", x.rounds(-1, 1), BAD);
        due.is("z stays", x.count(8), 1);
        due.is("rounds(0, 1)", x.rounds(0, 1), 2);
        due.is("left", x.deedTold(0, 3), 12);
        due.is("lies", x.deedTold(0, 5), 1);
        int z = 1;
        for (int i = 0; i < 4; i++) {
            z = z * 1103515245 + 12345;
        }
        due.is("a draw for each, whether it speaks or not", x.count(8), z);
        x.again(0);
        x.bolder(0, 50);
        x.bolder(2, 0);
        x.bolder(3, 0);
        // one speaks if the rest is below 50: whether it is, is worked out here
        z = 77;
        int first = 0;
        boolean spoken = false;
        for (int round = 1; round <= 40 && !spoken; round++) {
            z = z * 1103515245 + 12345;
            spoken = (z >>> 8) % 100 < 50;
            first = round;
            for (int i = 0; i < 3; i++) {
                z = z * 1103515245 + 12345;
            }
        }
        x.seed(77);
        if (first > 1) {
            due.is("silent rounds", x.rounds(0, first - 1), 0);
        }
        due.is("the round that is not", x.rounds(0, 1), 1);
        due.is("z of these", x.count(8), z);
        due.is("rounds(0, 40)", x.rounds(0, 40) >= 0 ? 1 : 0, 1);
    }

    private static void roundsByText() {
        NeverSaid x = speakers(6);
        x.deed(32, 0, 0);
        Due.text(x, "bold (s=1|s=3)*1000-1");
        due.is("those that the text lets", x.rounds(0, 1), 2);
        due.is("the least each", x.deedTold(0, 3), 60);
        x.again(0);
        Due.text(x, "bold (n>4)*b*2");
        due.is("while many are left", x.rounds(0, 40), 2);
        due.is("four are left", x.deedTold(0, 3), 60);
        x.again(0);
        Due.text(x, "bold 0-b");
        due.is("held from below", x.rounds(0, 40), 0);
        Due.text(x, "bold b+50");
        Due.text(x, "may s=p");
        due.is("each of itself, ahead of the last two", x.rounds(0, 1), 4);
    }
}
