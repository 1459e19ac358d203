/** Promises 1 to 11: a new object, and people. */
public final class PeopleTest {
    private static final int BAD = NeverSaid.BAD, FULL = NeverSaid.FULL, KIND = NeverSaid.KIND;
    private static final Due due = new Due();

    public static void main(String[] args) {
        newObject();
        person();
        told();
        as();
        turnsAndBolder();
        away();
        friend();
        follow();
        followRoundAbout();
        deal();
        seed();
        due.end();
    }

    private static void newObject() {
        NeverSaid x = new NeverSaid();
        int[] counts = {0, 0, 2, 0, 0, 0, 0, 0, 1};
        for (int what = 0; what < counts.length; what++) {
            due.is("new: count(" + what + ")", x.count(what), counts[what]);
        }
        for (int key = 0; key < 3; key++) {
            due.is("new: why(" + key + ")", x.why(key), NeverSaid.NONE);
        }
        for (int sheet = 0; sheet < 4; sheet++) {
            due.is("new: pour(" + sheet + ")", x.pour(sheet), NeverSaid.NOTHING);
        }
        for (int slot = 0; slot < 5; slot++) {
            due.is("new: rest(" + slot + ", 1)", x.rest(slot, 1), NeverSaid.NOTHING);
        }
        due.is("new: silent()", x.silent(), 0);
        due.is("new: most()", x.most(), NeverSaid.NONE);
        due.is("new: back()", x.back(), NeverSaid.NO);
        due.is("new: told(0, 0)", x.told(0, 0), BAD);
    }

    private static void person() {
        NeverSaid x = new NeverSaid();
        due.is("person(-1, 0)", x.person(-1, 0), BAD);
        due.is("person(6, 0)", x.person(6, 0), BAD);
        due.is("person(0, -1)", x.person(0, -1), BAD);
        due.is("person(0, 101)", x.person(0, 101), BAD);
        for (int i = 0; i < 12; i++) {
            due.is("person " + i, x.person(i % 6, i % 2 * 100), i);
            due.is("kind of " + i, x.told(i, 0), i % 6);
            due.is("bold of " + i, x.told(i, 1), i % 2 * 100);
        }
        due.is("a 13th", x.person(0, 0), FULL);
        due.is("a bad 13th", x.person(6, 0), BAD);
        due.is("twelve", x.count(0), 12);
    }

    private static void told() {
        NeverSaid x = new NeverSaid();
        int[] worth = {100, 105, 0, 210, -7, 1000};
        int[] worthless = {0, 5, 100, 10, 93, 0};
        for (int kind = 0; kind < 6; kind++) {
            x.person(kind, 100);
            x.person(kind, 0);
            due.is("worth of kind " + kind, x.told(2 * kind, 5), worth[kind]);
            due.is("worth of kind " + kind + " at 0", x.told(2 * kind + 1, 5), worthless[kind]);
        }
        x.deed(1, 0, 0);
        x.deed(1, 0, 0);
        x.say(0, 0, 3);
        due.is("left no more on one", x.told(3, 6), 1);
        x.say(0, 1, 3);
        due.is("left no more on two", x.told(3, 6), 2);
        due.is("left on all", x.told(2, 6), 0);
        due.is("told(0, 7)", x.told(0, 7), BAD);
        due.is("told(0, -1)", x.told(0, -1), BAD);
        due.is("told(12, 0)", x.told(12, 0), BAD);
        due.is("told(-1, 0)", x.told(-1, 0), BAD);
    }

    private static void as() {
        NeverSaid x = new NeverSaid();
        int[] of = {1, 3, 5, 11, 21, 33}; // bits: of which kinds one of this kind is
        for (int kind = 0; kind < 6; kind++) {
            x.person(kind, 10 + kind);
            for (int wanted = 0; wanted < 6; wanted++) {
                boolean is = (of[kind] >> wanted & 1) == 1;
                due.is("as(" + kind + ", " + wanted + ")", x.as(kind, wanted), is ? 10 + kind : KIND);
            }
        }
        due.is("as(0, 6)", x.as(0, 6), BAD);
        due.is("as(0, -1)", x.as(0, -1), BAD);
        due.is("as(6, 0)", x.as(6, 0), BAD);
        due.is("as(-1, 0)", x.as(-1, 0), BAD);
    }

    private static void turnsAndBolder() {
        NeverSaid x = new NeverSaid();
        x.person(2, 40);
        due.is("turns(0, 5)", x.turns(0, 5), 2);
        due.is("turns(0, 5) again", x.turns(0, 5), 5);
        due.is("turns(0, 6)", x.turns(0, 6), BAD);
        due.is("turns(0, -1)", x.turns(0, -1), BAD);
        due.is("turns(1, 0)", x.turns(1, 0), BAD);
        due.is("kind then", x.told(0, 0), 5);
        due.is("worth then", x.told(0, 5), 400);
        due.is("bolder(0, 100)", x.bolder(0, 100), 40);
        due.is("bolder(0, 0)", x.bolder(0, 0), 100);
        due.is("bolder(0, -1)", x.bolder(0, -1), BAD);
        due.is("bolder(0, 101)", x.bolder(0, 101), BAD);
        due.is("bolder(1, 1)", x.bolder(1, 1), BAD);
        due.is("bold then", x.told(0, 1), 0);
    }

    private static void away() {
        NeverSaid x = new NeverSaid();
        x.person(0, 0);
        x.person(0, 0);
        due.is("away(0, 0, 1)", x.away(0, 0, 1), 0);
        due.is("away(0, 23, 1)", x.away(0, 23, 1), 0);
        due.is("away(0, 23, 1) again", x.away(0, 23, 1), 1);
        due.is("hours", x.told(0, 2), 1 | 1 << 23);
        due.is("hours of the other", x.told(1, 2), 0);
        due.is("away(0, 0, 0)", x.away(0, 0, 0), 1);
        due.is("away(0, 0, 0) again", x.away(0, 0, 0), 0);
        due.is("hours then", x.told(0, 2), 1 << 23);
        due.is("away(0, 24, 1)", x.away(0, 24, 1), BAD);
        due.is("away(0, -1, 1)", x.away(0, -1, 1), BAD);
        due.is("away(0, 1, 2)", x.away(0, 1, 2), BAD);
        due.is("away(0, 1, -1)", x.away(0, 1, -1), BAD);
        due.is("away(2, 1, 1)", x.away(2, 1, 1), BAD);
        due.is("hours still", x.told(0, 2), 1 << 23);
    }

    private static void friend() {
        NeverSaid x = new NeverSaid();
        for (int i = 0; i < 12; i++) {
            x.person(0, 0);
        }
        due.is("friend(0, 11, 1)", x.friend(0, 11, 1), 0);
        due.is("friend(11, 0, 1)", x.friend(11, 0, 1), 1);
        due.is("friend(0, 5, 1)", x.friend(0, 5, 1), 0);
        due.is("friends of 0", x.told(0, 3), 1 << 11 | 1 << 5);
        due.is("friends of 11", x.told(11, 3), 1);
        due.is("friend(11, 0, 0)", x.friend(11, 0, 0), 1);
        due.is("friend(0, 11, 0)", x.friend(0, 11, 0), 0);
        due.is("friends of 0 then", x.told(0, 3), 1 << 5);
        due.is("friends of 11 then", x.told(11, 3), 0);
        due.is("friend(3, 3, 1)", x.friend(3, 3, 1), BAD);
        due.is("friend(3, 12, 1)", x.friend(3, 12, 1), BAD);
        due.is("friend(-1, 3, 1)", x.friend(-1, 3, 1), BAD);
        due.is("friend(1, 2, 2)", x.friend(1, 2, 2), BAD);
        due.is("friends of 1", x.told(1, 3), 0);
    }

    private static void follow() {
        NeverSaid x = new NeverSaid();
        for (int i = 0; i < 12; i++) {
            x.person(0, 0);
        }
        // a chain told from its far end, so that one pass in the order of numbers would miss some
        for (int i = 0; i < 11; i++) {
            due.is("follow(" + (i + 1) + ", " + i + ", 1)", x.follow(i + 1, i, 1), 0);
        }
        due.is("behind 11", x.told(11, 4), (1 << 11) - 1);
        due.is("behind 0", x.told(0, 4), 0);
        due.is("follow(6, 5, 1) again", x.follow(6, 5, 1), 1);
        due.is("follow(11, 0, 0), never told", x.follow(11, 0, 0), 0);
        due.is("behind 11 still", x.told(11, 4), (1 << 11) - 1);
        due.is("follow(6, 5, 0)", x.follow(6, 5, 0), 1);
        due.is("behind 11 then", x.told(11, 4), (1 << 11) - (1 << 6));
        due.is("behind 5", x.told(5, 4), 31);
        due.is("behind 6", x.told(6, 4), 0);
        due.is("follow(1, 1, 1)", x.follow(1, 1, 1), BAD);
        due.is("follow(12, 1, 1)", x.follow(12, 1, 1), BAD);
        due.is("follow(1, -1, 1)", x.follow(1, -1, 1), BAD);
        due.is("follow(1, 2, 2)", x.follow(1, 2, 2), BAD);
    }

    private static void followRoundAbout() {
        NeverSaid x = new NeverSaid();
        for (int i = 0; i < 4; i++) {
            x.person(0, 0);
        }
        x.follow(0, 2, 1);
        x.follow(2, 1, 1);
        due.is("not oneself", x.told(0, 4), 6);
        x.follow(1, 0, 1);
        due.is("oneself, round about", x.told(0, 4), 7);
        x.follow(3, 1, 1);
        due.is("into the ring", x.told(3, 4), 7);
    }

    private static void deal() {
        NeverSaid x = new NeverSaid();
        due.is("deal(0)", x.deal(0), BAD);
        due.is("deal(13)", x.deal(13), BAD);
        due.is("deal(-1)", x.deal(-1), BAD);
        due.is("z not drawn", x.count(8), 1);
        x.seed(99);
        due.is("deal(2)", x.deal(2), 2);
        int z = 99;
        for (int p = 0; p < 2; p++) {
            int[] draw = new int[4];
            for (int i = 0; i < 4; i++) {
                z = z * 1103515245 + 12345;
                draw[i] = z >>> 8;
            }
            due.is("kind drawn", x.told(p, 0), draw[0] % 6);
            due.is("bold drawn", x.told(p, 1), draw[1] % 101);
            due.is("hours drawn", x.told(p, 2), draw[2] & draw[3] & 0xFFFFFF);
            due.is("friends", x.told(p, 3), 0);
            due.is("followers", x.told(p, 4), 0);
        }
        due.is("z", x.count(8), z);
        due.is("deal(1)", x.deal(1), 1);
        due.is("deal(12) with room for nine", x.deal(12), 9);
        int full = x.count(8);
        due.is("deal(5) without room", x.deal(5), 0);
        due.is("no draws for others", x.count(8), full);
    }

    private static void seed() {
        NeverSaid x = new NeverSaid();
        due.is("seed(MIN)", x.seed(Integer.MIN_VALUE), 1);
        due.is("seed(0)", x.seed(0), Integer.MIN_VALUE);
        due.is("count(8)", x.count(8), 0);
    }
}
