/** Promises 1 to 11 and the terms that they stand on, at their bounds: a sentence of the document for each test. */
public final class PeopleEdgesTest {
    private static final int BAD = NeverSaid.BAD, FULL = NeverSaid.FULL, KIND = NeverSaid.KIND, NONE = NeverSaid.NONE;
    private static final int MIN = Integer.MIN_VALUE, MAX = Integer.MAX_VALUE;
    private static final int EVERYONE = 4095, ALL_HOURS = (1 << 24) - 1;
    /** Of which kinds one of each kind is, as bits. */
    private static final int[] OF = {1, 3, 5, 11, 21, 33};
    private static final Due due = new Due();
    private static final Refused refused = new Refused(due);

    public static void main(String[] args) {
        constants();
        nobodyAtFirst();
        asToldAtFirst();
        twelveAtMost();
        badAheadOfFull();
        boldOfPerson();
        kindOfPerson();
        numbersOfTold();
        whatOfTold();
        nothingAtFirst();
        worthAtTheBounds();
        deedsWithoutOne();
        as();
        badAheadOfKind();
        turns();
        bolder();
        awayAtTheBounds();
        awayEveryHour();
        awayRefused();
        friendsOfEachOther();
        friendRefused();
        followTold();
        followInARow();
        followRoundAbout();
        followRefused();
        dealBounds();
        dealAsManyAsThereIsRoomFor();
        dealDraws();
        seed();
        due.end();
    }

    /** "BAD = -1000000001, NO = -1000000002, ..": told by the class that runs, not by the one compiled against. */
    private static void constants() {
        String[] names = {"BAD", "NO", "FULL", "NONE", "NOTHING", "KIND", "INDEX", "SIZE"};
        int[] ends = {1, 2, 3, 5, 11, 12, 13, 14};
        for (int i = 0; i < names.length; i++) {
            int value = 0;
            try {
                value = NeverSaid.class.getField(names[i]).getInt(null);
            } catch (ReflectiveOperationException e) {
                System.out.println(e);
            }
            due.is(names[i], value, -1000000000 - ends[i]);
        }
    }

    /** "A new object: As told; nobody": each call that names one of people is refused. */
    private static void nobodyAtFirst() {
        for (int p : new int[] {-1, 0, 1, MIN, MAX}) {
            NeverSaid x = new NeverSaid();
            due.is("told " + p, x.told(p, 0), BAD);
            due.is("as " + p, x.as(p, 0), BAD);
            due.is("turns " + p, x.turns(p, 0), BAD);
            due.is("bolder " + p, x.bolder(p, 0), BAD);
            due.is("away " + p, x.away(p, 0, 1), BAD);
            due.is("friend " + p, x.friend(p, 1 - p, 1), BAD);
            due.is("follow " + p, x.follow(p, 1 - p, 1), BAD);
            due.is("deed by " + p, x.deed(1 << p, 0, 0), BAD);
            due.is("say " + p, x.say(p, 0, p), BAD);
            due.is("choice of " + p, x.choice(p, 0), BAD);
            due.is("falls on " + p, x.falls(p, 0), BAD);
            due.is("lay " + p, x.lay(0, 1, p), BAD);
            due.is("nobody came", x.count(0), 0);
        }
        NeverSaid x = new NeverSaid();
        due.is("silent of nobody", x.silent(), 0);
        due.is("most of nobody", x.most(), NONE);
        due.is("keep of nobody", x.keep(), 0);
        due.is("back of nobody", x.back(), 0);
    }

    /** "STOP is 0 .. 4 (2 at first)", "z is told (1 at first)", and there is none of all else. */
    private static void asToldAtFirst() {
        NeverSaid x = new NeverSaid();
        int[] counts = {0, 0, 2, 0, 0, 0, 0, 0, 1};
        for (int what = 0; what < 9; what++) {
            due.is("count(" + what + ") at first", x.count(what), counts[what]);
        }
        for (int k = 0; k < 5; k++) {
            due.is("deed " + k, x.deedTold(k, 0), BAD);
            due.is("text " + k, x.textTold(k, 0), BAD);
            due.is("text of a key " + k, x.why(k), k < 3 ? NONE : BAD);
            due.is("sheet " + k, x.reads(k), k < 4 ? NeverSaid.NOTHING : BAD);
            due.is("slot " + k, x.item(k, 0), NeverSaid.NOTHING);
        }
        due.is("image", x.back(), NeverSaid.NO);
    }

    /** "PEOPLE, 12 at most, numbered from 0"; "One more of PEOPLE: its number. .. FULL." */
    private static void twelveAtMost() {
        NeverSaid x = new NeverSaid();
        for (int i = 0; i < 12; i++) {
            due.is("nobody has number " + i, x.told(i, 1), BAD);
            due.is("number " + i, x.person(i % 6, 7 * i), i);
            due.is("how many with " + i, x.count(0), i + 1);
        }
        for (int i = 0; i < 12; i++) {
            due.is("kind of " + i, x.told(i, 0), i % 6);
            due.is("bold of " + i, x.told(i, 1), 7 * i);
        }
        due.is("a 13th", x.person(0, 0), FULL);
        due.is("twelve still", x.count(0), 12);
        refused.is("person(0, 0) of 13", Busy::full, y -> y.person(0, 0), FULL);
        refused.is("person(5, 100) of 13", Busy::full, y -> y.person(5, 100), FULL);
    }

    /** "BAD; FULL.": of several the one that stands first. */
    private static void badAheadOfFull() {
        refused.each("full: person(kind, 0)", Busy::full, (x, v) -> x.person(v, 0), BAD, -1, 6, MIN, MAX);
        refused.each("full: person(0, bold)", Busy::full, (x, v) -> x.person(0, v), BAD, -1, 101, MIN, MAX);
    }

    /** "BOLD 0 .. 100": of one that comes. */
    private static void boldOfPerson() {
        NeverSaid x = new NeverSaid();
        int[] good = {0, 1, 50, 99, 100};
        for (int i = 0; i < good.length; i++) {
            due.is("person(0, " + good[i] + ")", x.person(0, good[i]), i);
            due.is("bold " + good[i], x.told(i, 1), good[i]);
        }
        refused.each("person(0, bold)", Busy::hall, (y, v) -> y.person(0, v), BAD, -1, 101, -100, 200, MIN, MAX);
    }

    /** "KINDS .. 0 SPEAKER; .. 5 LYING": of one that comes. */
    private static void kindOfPerson() {
        NeverSaid x = new NeverSaid();
        for (int kind = 0; kind < 6; kind++) {
            due.is("person(" + kind + ", 9)", x.person(kind, 9), kind);
            due.is("kind " + kind, x.told(kind, 0), kind);
        }
        refused.each("person(kind, 0)", Busy::hall, (y, v) -> y.person(v, 0), BAD, -1, 6, 7, MIN, MAX);
        refused.is("person(6, 101)", Busy::hall, y -> y.person(6, 101), BAD);
    }

    /** "told .. Of one .. BAD.": the least and the greatest number, and those beside them. */
    private static void numbersOfTold() {
        for (int many = 1; many <= 12; many++) {
            NeverSaid x = new NeverSaid();
            for (int i = 0; i < many; i++) {
                x.person(0, 10 + i);
            }
            due.is("the first of " + many, x.told(0, 1), 10);
            due.is("the last of " + many, x.told(many - 1, 1), 9 + many);
            due.is("ahead of the first of " + many, x.told(-1, 1), BAD);
            due.is("behind the last of " + many, x.told(many, 1), BAD);
        }
        refused.each("told(person, 0)", Busy::hall, (x, v) -> x.told(v, 0), BAD, -1, 7, 12, MIN, MAX);
        refused.each("full: told(person, 0)", Busy::full, (x, v) -> x.told(v, 0), BAD, -1, 12, 13);
    }

    /** "what 0 KIND, .. 6 on how many DEEDS it is LEFT no more. BAD." */
    private static void whatOfTold() {
        NeverSaid x = Busy.hall();
        int[] first = {0, 30, 1, 32, 0, 30};
        for (int what = 0; what < 6; what++) {
            due.is("told(0, " + what + ")", x.told(0, what), first[what]);
        }
        due.is("told(4, 6)", x.told(4, 6) >= 1 ? 1 : 0, 1);
        refused.each("told(0, what)", Busy::hall, (y, v) -> y.told(0, v), BAD, -1, 7, 8, MIN, MAX);
        refused.is("told(7, 7)", Busy::hall, y -> y.told(7, 7), BAD);
    }

    /** "AWAY .. (in none at first), FRIENDS (.. none at first)", FOLLOW "(none does at first)". */
    private static void nothingAtFirst() {
        NeverSaid x = new NeverSaid();
        for (int i = 0; i < 12; i++) {
            x.person(i % 6, 50);
        }
        for (int i = 0; i < 12; i++) {
            due.is("away of " + i, x.told(i, 2), 0);
            due.is("friends of " + i, x.told(i, 3), 0);
            due.is("who follows from " + i, x.told(i, 4), 0);
            due.is("deeds without " + i, x.told(i, 6), 0);
        }
    }

    /** "WORTH: SPEAKER: BOLD. .. LYING: 10 times BOLD." with the least and the greatest BOLD and those beside. */
    private static void worthAtTheBounds() {
        int[] bold = {0, 1, 99, 100};
        int[][] worth = {{0, 1, 99, 100}, {5, 6, 104, 105}, {100, 99, 1, 0}, {10, 12, 208, 210}, {93, 92, -6, -7},
            {0, 10, 990, 1000}};
        NeverSaid x = new NeverSaid();
        x.person(0, 0);
        for (int kind = 0; kind < 6; kind++) {
            for (int i = 0; i < 4; i++) {
                x.turns(0, kind);
                x.bolder(0, bold[i]);
                due.is("worth of kind " + kind + " with " + bold[i], x.told(0, 5), worth[kind][i]);
                x.lay(0, 1, 0);
                due.is("worth in a slot of kind " + kind + " with " + bold[i], x.ask(0, 0), worth[kind][i]);
            }
        }
    }

    /** "6 on how many DEEDS it is LEFT no more": from none to all eight. */
    private static void deedsWithoutOne() {
        NeverSaid x = Busy.speakers(12);
        for (int d = 0; d < 8; d++) {
            x.deed(1, 0, 0);
        }
        for (int d = 0; d < 8; d++) {
            due.is("without 11 on " + d, x.told(11, 6), d);
            due.is("without 0 on " + d, x.told(0, 6), d);
            x.say(5, d, 11);
            x.say(5, d, 0);
        }
        due.is("without 11 on all", x.told(11, 6), 8);
        due.is("without 10 on none", x.told(10, 6), 0);
    }

    /** "as: One as a SPEAKER of a KIND: BOLD. .. KIND: it is not of that KIND, nor of one under it." */
    private static void as() {
        for (int kind = 0; kind < 6; kind++) {
            int its = kind;
            for (int wanted = 0; wanted < 6; wanted++) {
                int as = wanted;
                boolean is = (OF[kind] >> wanted & 1) == 1;
                refused.is("kind " + kind + " as " + wanted, () -> turned(its), x -> x.as(6, as), is ? 44 : KIND);
            }
        }
    }

    private static NeverSaid turned(int kind) {
        NeverSaid x = Busy.hall();
        x.turns(6, kind);
        return x;
    }

    /** "BAD: person, kind; KIND": of several the one that stands first. */
    private static void badAheadOfKind() {
        refused.each("as(0, kind)", Busy::hall, (x, v) -> x.as(0, v), BAD, -1, 6, MIN, MAX);
        refused.each("as(person, 5)", Busy::hall, (x, v) -> x.as(v, 5), BAD, -1, 7, 12, MIN, MAX);
        refused.each("full: as(person, 5)", Busy::full, (x, v) -> x.as(v, 5), BAD, -1, 12);
    }

    /** "turns: One is of another KIND (or the same) from now on: what it was. BAD." */
    private static void turns() {
        NeverSaid x = Busy.speakers(12);
        int was = 0;
        for (int kind : new int[] {5, 5, 0, 0, 4, 3, 2, 1}) {
            due.is("turns(11, " + kind + ")", x.turns(11, kind), was);
            due.is("kind then", x.told(11, 0), kind);
            was = kind;
        }
        due.is("the others are as they were", x.told(10, 0), 0);
        refused.each("turns(0, kind)", Busy::hall, (y, v) -> y.turns(0, v), BAD, -1, 6, MIN, MAX);
        refused.each("turns(person, 0)", Busy::hall, (y, v) -> y.turns(v, 0), BAD, -1, 7, 12, MIN, MAX);
        refused.is("turns(3, 5), which it is", Busy::hall, y -> y.turns(3, 5), 5);
    }

    /** "BOLD 0 .. 100"; "bolder: BOLD becomes v: what it was. BAD." */
    private static void bolder() {
        NeverSaid x = Busy.speakers(12);
        int was = 50;
        for (int v : new int[] {0, 1, 99, 100, 100, 0}) {
            due.is("bolder(11, " + v + ")", x.bolder(11, v), was);
            due.is("bold then", x.told(11, 1), v);
            was = v;
        }
        due.is("the others are as they were", x.told(10, 1), 50);
        refused.each("bolder(0, v)", Busy::hall, (y, v) -> y.bolder(0, v), BAD, -1, 101, MIN, MAX);
        refused.each("bolder(person, 50)", Busy::hall, (y, v) -> y.bolder(v, 50), BAD, -1, 7, 12, MIN, MAX);
    }

    /** "the HOURS 0 .. 23"; "AWAY in an HOUR (v 1) or not (0): what it was." */
    private static void awayAtTheBounds() {
        for (int hour : new int[] {0, 1, 22, 23}) {
            NeverSaid x = Busy.speakers(12);
            due.is("not away yet in " + hour, x.away(11, hour, 0), 0);
            due.is("away in " + hour, x.away(11, hour, 1), 0);
            due.is("away already in " + hour, x.away(11, hour, 1), 1);
            due.is("hours with " + hour, x.told(11, 2), 1 << hour);
            due.is("hours of another one", x.told(10, 2), 0);
            due.is("there again in " + hour, x.away(11, hour, 0), 1);
            due.is("hours without " + hour, x.told(11, 2), 0);
        }
    }

    /** "AWAY in some of the HOURS": in all of them, and in all but one. */
    private static void awayEveryHour() {
        NeverSaid x = Busy.speakers(1);
        for (int hour = 0; hour < 24; hour++) {
            due.is("away in " + hour, x.away(0, hour, 1), 0);
        }
        due.is("all hours", x.told(0, 2), ALL_HOURS);
        due.is("an hour beyond", x.away(0, 24, 1), BAD);
        for (int hour = 0; hour < 24; hour++) {
            x.away(0, hour, 0);
            due.is("all but " + hour, x.told(0, 2), ALL_HOURS ^ 1 << hour);
            x.away(0, hour, 1);
        }
    }

    /** "away .. BAD.": person, hour, v. */
    private static void awayRefused() {
        refused.each("away(0, hour, 1)", Busy::hall, (x, v) -> x.away(0, v, 1), BAD, -1, 24, 32, 33, MIN, MAX);
        refused.each("away(0, hour, 0)", Busy::hall, (x, v) -> x.away(0, v, 0), BAD, -32, -1, 24, 32);
        refused.each("away(0, 1, v)", Busy::hall, (x, v) -> x.away(0, 1, v), BAD, -1, 2, 3, MIN, MAX);
        refused.each("away(0, 0, v)", Busy::hall, (x, v) -> x.away(0, 0, v), BAD, -1, 2);
        refused.each("away(person, 1, 1)", Busy::hall, (x, v) -> x.away(v, 1, 1), BAD, -1, 7, 12, MIN, MAX);
    }

    /** "FRIENDS (two are each other's ..)"; "Two are FRIENDS (v 1) or not (0): what they were." */
    private static void friendsOfEachOther() {
        int[][] pairs = {{0, 11}, {11, 0}, {0, 1}, {10, 11}};
        for (int[] pair : pairs) {
            NeverSaid x = Busy.speakers(12);
            int a = pair[0];
            int b = pair[1];
            due.is("not yet", x.friend(a, b, 0), 0);
            due.is("friends", x.friend(a, b, 1), 0);
            due.is("already", x.friend(a, b, 1), 1);
            due.is("the other way round, too", x.friend(b, a, 1), 1);
            due.is("friends of " + a, x.told(a, 3), 1 << b);
            due.is("friends of " + b, x.told(b, 3), 1 << a);
            due.is("friends of another one", x.told(5, 3), 0);
            due.is("no more", x.friend(b, a, 0), 1);
            due.is("friends of " + a + " then", x.told(a, 3), 0);
            due.is("friends of " + b + " then", x.told(b, 3), 0);
        }
        NeverSaid x = Busy.speakers(12);
        for (int p = 1; p < 12; p++) {
            x.friend(0, p, 1);
        }
        due.is("all are friends of 0", x.told(0, 3), EVERYONE - 1);
        due.is("not of one another", x.told(11, 3), 1);
    }

    /** "friend .. BAD: also one and itself." */
    private static void friendRefused() {
        refused.each("friend(one, one, 1)", Busy::hall, (x, v) -> x.friend(v, v, 1), BAD, -1, 0, 3, 6, 7);
        refused.each("friend(one, one, 0)", Busy::hall, (x, v) -> x.friend(v, v, 0), BAD, 0, 6);
        refused.each("friend(0, other, 1)", Busy::hall, (x, v) -> x.friend(0, v, 1), BAD, -1, 7, 12, 32, MIN, MAX);
        refused.each("friend(one, 0, 1)", Busy::hall, (x, v) -> x.friend(v, 0, 1), BAD, -1, 7, 12, 32, MIN, MAX);
        refused.each("friend(0, 1, v)", Busy::hall, (x, v) -> x.friend(0, 1, v), BAD, -1, 2, MIN, MAX);
        refused.each("friend(2, 4, v)", Busy::hall, (x, v) -> x.friend(2, 4, v), BAD, -1, 2, MIN, MAX);
    }

    /** "It is told that q FOLLOWS from p (v 1), or not (0): what it was.": told, not what comes of it. */
    private static void followTold() {
        NeverSaid x = Busy.speakers(12);
        due.is("not yet", x.follow(0, 11, 0), 0);
        due.is("told", x.follow(0, 11, 1), 0);
        due.is("already", x.follow(0, 11, 1), 1);
        due.is("the other way round not", x.follow(11, 0, 0), 0);
        due.is("who follows from 0", x.told(0, 4), 1 << 11);
        due.is("who follows from 11", x.told(11, 4), 0);
        x.follow(11, 5, 1);
        due.is("both", x.told(0, 4), 1 << 11 | 1 << 5);
        due.is("it comes of it, it was not told", x.follow(0, 5, 1), 0);
        due.is("told no more", x.follow(11, 5, 0), 1);
        due.is("but still told of 0", x.told(0, 4), 1 << 11 | 1 << 5);
        due.is("nor of 0", x.follow(0, 5, 0), 1);
        due.is("one", x.told(0, 4), 1 << 11);
    }

    /** "those told so, and those who FOLLOW from these, and so on": over all twelve, both ways. */
    private static void followInARow() {
        NeverSaid up = Busy.speakers(12);
        NeverSaid down = Busy.speakers(12);
        for (int i = 0; i < 11; i++) {
            up.follow(i, i + 1, 1);
            down.follow(11 - i, 10 - i, 1);
        }
        for (int p = 0; p < 12; p++) {
            due.is("up from " + p, up.told(p, 4), EVERYONE & -2 << p);
            due.is("down from " + p, down.told(p, 4), (1 << p) - 1);
        }
        up.follow(5, 6, 0);
        due.is("as far as it goes", up.told(0, 4), 62);
        due.is("from there on", up.told(6, 4), EVERYONE & -2 << 6);
    }

    /** "(p not, unless round about)": in a ring of two, and in one of all. */
    private static void followRoundAbout() {
        NeverSaid x = Busy.speakers(12);
        x.follow(3, 4, 1);
        due.is("not itself", x.told(3, 4), 16);
        x.follow(4, 3, 1);
        due.is("itself, by the other", x.told(3, 4), 24);
        due.is("the other, too", x.told(4, 4), 24);
        x.follow(4, 3, 0);
        due.is("not itself again", x.told(3, 4), 16);
        for (int p = 0; p < 12; p++) {
            x.follow(p, (p + 1) % 12, 1);
        }
        for (int p = 0; p < 12; p++) {
            due.is("all round about, from " + p, x.told(p, 4), EVERYONE);
        }
        x.follow(11, 0, 0);
        due.is("the ring is open", x.told(0, 4), EVERYONE - 1);
        due.is("its end", x.told(11, 4), 0);
    }

    /** "follow .. BAD: also one and itself." */
    private static void followRefused() {
        refused.each("follow(p, p, 1)", Busy::hall, (x, v) -> x.follow(v, v, 1), BAD, -1, 0, 1, 6, 7);
        refused.each("follow(p, p, 0)", Busy::hall, (x, v) -> x.follow(v, v, 0), BAD, 0, 1);
        refused.each("follow(0, q, 1)", Busy::hall, (x, v) -> x.follow(0, v, 1), BAD, -1, 7, 12, 32, MIN, MAX);
        refused.each("follow(p, 0, 1)", Busy::hall, (x, v) -> x.follow(v, 0, 1), BAD, -1, 7, 12, 32, MIN, MAX);
        refused.each("follow(0, 1, v)", Busy::hall, (x, v) -> x.follow(0, 1, v), BAD, -1, 2, MIN, MAX);
        refused.each("follow(1, 2, v)", Busy::hall, (x, v) -> x.follow(1, 2, v), BAD, -1, 2, MIN, MAX);
    }

    /** "n (1 .. 12) of them .. BAD." */
    private static void dealBounds() {
        for (int n : new int[] {1, 2, 11, 12}) {
            NeverSaid x = new NeverSaid();
            due.is("deal(" + n + ")", x.deal(n), n);
            due.is("they came", x.count(0), n);
        }
        refused.each("deal(n)", Busy::hall, (x, v) -> x.deal(v), BAD, -1, 0, 13, MIN, MAX);
        refused.each("full: deal(n)", Busy::full, (x, v) -> x.deal(v), BAD, -1, 0, 13);
        refused.each("nobody: deal(n)", NeverSaid::new, (x, v) -> x.deal(v), BAD, -1, 0, 13);
    }

    /** "as many as there is room for (no draws for others): how many came." */
    private static void dealAsManyAsThereIsRoomFor() {
        for (int before = 0; before <= 12; before++) {
            for (int n : new int[] {1, 11 - before, 12 - before, 13 - before, 12}) {
                if (n < 1 || n > 12) {
                    continue;
                }
                NeverSaid x = Busy.speakers(before);
                int come = Math.min(n, 12 - before);
                due.is("deal(" + n + ") with " + before, x.deal(n), come);
                due.is("then there are", x.count(0), before + come);
                due.is("four draws for each", x.count(8), drawn(1, 4 * come));
            }
        }
        refused.each("full: deal(n) brings nobody", Busy::full, (x, v) -> x.deal(v), 0, 1, 2, 12);
    }

    /** z after so many draws. */
    private static int drawn(int z, int draws) {
        int then = z;
        for (int i = 0; i < draws; i++) {
            then = then * 1103515245 + 12345;
        }
        return then;
    }

    /** "A draw: z becomes .. (an int); it gives z >>> 8"; "KIND the rest of a draw by 6, BOLD .. by 101, AWAY ..". */
    private static void dealDraws() {
        for (int z : new int[] {0, 1, -1, MIN, MAX, 7, 123456789, -987654321}) {
            NeverSaid x = new NeverSaid();
            x.seed(z);
            x.deal(12);
            for (int p = 0; p < 12; p++) {
                due.is("kind of " + p + " by " + z, x.told(p, 0), (drawn(z, 4 * p + 1) >>> 8) % 6);
                due.is("bold of " + p + " by " + z, x.told(p, 1), (drawn(z, 4 * p + 2) >>> 8) % 101);
                int both = drawn(z, 4 * p + 3) & drawn(z, 4 * p + 4);
                due.is("hours of " + p + " by " + z, x.told(p, 2), both >>> 8);
                due.is("friends of " + p, x.told(p, 3), 0);
                due.is("who follows from " + p, x.told(p, 4), 0);
            }
            due.is("z behind " + z, x.count(8), drawn(z, 48));
        }
    }

    /** "z becomes v: what it was.": any number. */
    private static void seed() {
        NeverSaid x = Busy.speakers(2);
        int was = 1;
        for (int v : new int[] {MIN, MAX, 0, -1, 1, BAD, 1}) {
            due.is("seed(" + v + ")", x.seed(v), was);
            due.is("z is " + v, x.count(8), v);
            was = v;
        }
        refused.is("seed(4711), which it is", Busy::hall, y -> y.seed(4711), 4711);
    }
}
