/** Promises 19 to 24 and the terms that they stand on, at their bounds: a sentence of the document for each test. */
public final class OutcomeEdgesTest {
    private static final int BAD = NeverSaid.BAD, NONE = NeverSaid.NONE;
    private static final int MIN = Integer.MIN_VALUE, MAX = Integer.MAX_VALUE;
    private static final Due due = new Due();
    private static final Refused refused = new Refused(due);

    public static void main(String[] args) {
        fewestRefused();
        badAheadOfNone();
        fewestNobody();
        fewestEachByItself();
        fewestOneForAll();
        fewestJustAll();
        fewestLeastAsBits();
        fewestWhoeverIsLeft();
        silentWithoutDeeds();
        silentOnAllDeeds();
        meantNobody();
        meantBelowTheGreatest();
        provedByItsHour();
        provedAllAway();
        provedWithWhoFollows();
        provedOfWhoIsLeft();
        deedsThatAreNot();
        fallsRefused();
        fallsNothing();
        fallsInLowestTerms();
        fallsAboveOne();
        mostOfSeveral();
        mostOfNobody();
        mostByFractions();
        tellingChangesNothing();
        due.end();
    }

    /** So many speakers, STOP 0, and a deed by these, at 7. */
    private static NeverSaid hall(int many, int doers) {
        NeverSaid x = Busy.speakers(many);
        x.stop(0);
        x.deed(doers, 7, 0);
        return x;
    }

    private static void fewestIs(String what, NeverSaid x, int bits) {
        due.is("fewest, " + what, x.fewest(0, 1), bits);
        due.is("how many, " + what, x.fewest(0, 0), bits == NONE ? NONE : Integer.bitCount(bits));
    }

    /** "how many (what 0), as bits (1). BAD". */
    private static void fewestRefused() {
        refused.each("fewest(0, what)", Busy::hall, (x, v) -> x.fewest(0, v), BAD, -1, 2, 3, MIN, MAX);
        refused.each("fewest(deed, 0)", Busy::hall, (x, v) -> x.fewest(v, 0), BAD, -1, 3, 8, MIN, MAX);
        refused.each("fewest(deed, 1)", Busy::hall, (x, v) -> x.fewest(v, 1), BAD, -1, 3, 8, MIN, MAX);
        refused.each("full: fewest(deed, 1)", Busy::full, (x, v) -> x.fewest(v, 1), BAD, -1, 8);
        NeverSaid x = Busy.full();
        due.is("the last deed, how many", x.fewest(7, 0) == BAD ? 1 : 0, 0);
        due.is("the last deed, bits", x.fewest(7, 1) == BAD ? 1 : 0, 0);
    }

    /** "BAD; NONE: there is none.": of several the one that stands first. */
    private static void badAheadOfNone() {
        NeverSaid x = hall(2, 1);
        x.follow(1, 0, 1);
        fewestIs("there is none", x, NONE);
        due.is("fewest(0, 2)", x.fewest(0, 2), BAD);
        due.is("fewest(0, -1)", x.fewest(0, -1), BAD);
        due.is("fewest(1, 0)", x.fewest(1, 0), BAD);
    }

    /** "(nobody, if all are DOERS)", whoever FOLLOWS from whom. */
    private static void fewestNobody() {
        fewestIs("one doer alone", hall(1, 1), 0);
        NeverSaid x = hall(2, 3);
        fewestIs("two doers alone", x, 0);
        x.follow(0, 1, 1);
        x.follow(1, 0, 1);
        fewestIs("two doers, who follow from one another", x, 0);
        x.person(0, 0);
        fewestIs("one comes", x, 4);
        x.follow(2, 0, 1);
        fewestIs("a doer goes by that one", x, NONE);
    }

    /** Nobody FOLLOWS: all who are no DOERS are needed. */
    private static void fewestEachByItself() {
        for (int many = 2; many <= 12; many++) {
            int all = (1 << many) - 1;
            fewestIs("the first of " + many + " did it", hall(many, 1), all - 1);
            fewestIs("the last of " + many + " did it", hall(many, 1 << many - 1), all >> 1);
            fewestIs("both ends of " + many, hall(many, 1 | 1 << many - 1), all >> 1 & ~1);
        }
    }

    /** All who are no DOERS GO by one of them. */
    private static void fewestOneForAll() {
        for (int one = 1; one < 12; one++) {
            NeverSaid x = hall(12, 1);
            for (int p = 1; p < 12; p++) {
                x.follow(one, p, 1);
            }
            fewestIs("by " + one, x, 1 << one);
        }
    }

    /** "just all who are no DOERS": no DOER, not even round about; who FOLLOWS from a DOER may go by others. */
    private static void fewestJustAll() {
        NeverSaid x = hall(4, 8);
        x.follow(3, 0, 1);
        fewestIs("who follows from the doer", x, 7);
        x.follow(0, 1, 1);
        x.follow(1, 2, 1);
        fewestIs("one for three", x, 1);
        x.follow(2, 3, 1);
        fewestIs("the doer goes at the end", x, NONE);
        x.follow(2, 3, 0);
        fewestIs("not any more", x, 1);
    }

    /** "of several the least as bits": one of each ring, the least. */
    private static void fewestLeastAsBits() {
        NeverSaid x = hall(12, 1);
        x.follow(10, 11, 1);
        x.follow(11, 10, 1);
        fewestIs("a ring of the last two", x, 2047 - 1);
        for (int p = 1; p < 12; p++) {
            x.follow(p, p == 11 ? 1 : p + 1, 1);
        }
        fewestIs("a ring of all eleven", x, 2);
        NeverSaid y = hall(7, 1);
        int[][] told = {{6, 5}, {5, 6}, {4, 3}, {3, 4}, {6, 1}, {4, 1}, {2, 1}};
        for (int[] t : told) {
            y.follow(t[0], t[1], 1);
        }
        fewestIs("two rings and one, over one that all bring", y, 1 << 5 | 1 << 3 | 1 << 2);
    }

    /** "(LEFT does not matter)": nobody is LEFT. */
    private static void fewestWhoeverIsLeft() {
        NeverSaid x = hall(3, 1);
        for (int p = 0; p < 3; p++) {
            x.say(0, 0, p);
            fewestIs("left: " + x.deedTold(0, 3), x, 6);
        }
    }

    /** "SILENT, as bits (without DEEDS all)". */
    private static void silentWithoutDeeds() {
        for (int many = 0; many <= 12; many++) {
            due.is("of " + many, Busy.speakers(many).silent(), (1 << many) - 1);
        }
    }

    /** "SILENT: who is LEFT on all DEEDS": eight of them, down to nobody. */
    private static void silentOnAllDeeds() {
        NeverSaid x = Busy.speakers(8);
        for (int d = 0; d < 8; d++) {
            x.deed(1, 0, 0);
        }
        due.is("at first", x.silent(), 255);
        int left = 255;
        for (int d = 7; d >= 0; d--) {
            x.say(0, d, d);
            left ^= 1 << d;
            due.is("without " + d, x.silent(), left);
        }
        due.is("nobody", x.silent(), 0);
        x.again(7);
        due.is("one again", x.silent(), 128);
    }

    /** MEANT: nobody, when all are LEFT, or none, or just the first is not. */
    private static void meantNobody() {
        NeverSaid x = hall(12, 1);
        due.is("all are left", x.meant(0), 0);
        for (int p = 0; p < 12; p++) {
            x.say(0, 0, p);
            due.is("from the first on, to " + p, x.meant(0), 0);
        }
        due.is("nobody is left", x.deedTold(0, 3), 0);
    }

    /** "who is LEFT, with a number below the greatest of those that are not". */
    private static void meantBelowTheGreatest() {
        for (int p = 0; p < 12; p++) {
            NeverSaid x = hall(12, 1);
            x.say(0, 0, p);
            due.is("below " + p, x.meant(0), (1 << p) - 1);
        }
        NeverSaid x = hall(12, 1);
        int left = 2047;
        x.say(0, 0, 11);
        for (int p = 10; p >= 0; p--) {
            x.say(0, 0, p);
            left ^= 1 << p;
            due.is("without " + p + ", too", x.meant(0), left);
        }
        NeverSaid y = hall(3, 1);
        y.say(0, 0, 2);
        y.person(0, 0);
        due.is("who comes later is above", y.meant(0), 3);
    }

    /** "AWAY in its HOUR": not in the one ahead of it, nor in the one behind. */
    private static void provedByItsHour() {
        for (int hour = 0; hour < 24; hour++) {
            NeverSaid x = Busy.speakers(3);
            x.deed(1, hour, 0);
            for (int h = 0; h < 24; h++) {
                if (h != hour) {
                    x.away(1, h, 1);
                }
            }
            due.is("there at " + hour + " alone", x.proved(0), 7);
            x.away(2, hour, 1);
            due.is("away at " + hour + " alone", x.proved(0), 3);
        }
    }

    /** "(STOP does not matter)": all were AWAY, and nobody would be LEFT. */
    private static void provedAllAway() {
        NeverSaid x = Busy.speakers(12);
        x.stop(4);
        x.deed(1, 23, 0);
        int left = 4095;
        for (int p = 0; p < 12; p++) {
            x.away(p, 23, 1);
            left ^= 1 << p;
            due.is("away: 0 to " + p, x.proved(0), left);
        }
        due.is("all are left still", x.deedTold(0, 3), 4095);
    }

    /** "with all who FOLLOW from them": to the end of the row, and round about. */
    private static void provedWithWhoFollows() {
        NeverSaid x = hall(12, 1);
        for (int p = 0; p < 11; p++) {
            x.follow(p, p + 1, 1);
        }
        for (int p = 11; p >= 0; p--) {
            x.away(p, 7, 1);
            due.is("from " + p + " on", x.proved(0), (1 << p) - 1);
            x.away(p, 7, 0);
        }
        due.is("all were there", x.proved(0), 4095);
        x.follow(11, 6, 1);
        x.away(11, 7, 1);
        due.is("round about", x.proved(0), 63);
    }

    /** "who would be LEFT": of those who are LEFT; one who is not, and was AWAY, takes others along. */
    private static void provedOfWhoIsLeft() {
        NeverSaid x = hall(4, 1);
        x.say(0, 0, 3);
        due.is("of three", x.proved(0), 7);
        x.follow(3, 2, 1);
        x.away(3, 7, 1);
        due.is("one who went before takes one along", x.proved(0), 3);
        x.say(0, 0, 0);
        x.say(0, 0, 1);
        due.is("nobody", x.proved(0), 0);
    }

    /** "meant .. BAD.", "proved .. BAD." */
    private static void deedsThatAreNot() {
        refused.each("meant(deed)", Busy::hall, (x, v) -> x.meant(v), BAD, -1, 3, 8, MIN, MAX);
        refused.each("proved(deed)", Busy::hall, (x, v) -> x.proved(v), BAD, -1, 3, 8, MIN, MAX);
        refused.each("full: meant(deed)", Busy::full, (x, v) -> x.meant(v), BAD, -1, 8);
        refused.each("full: proved(deed)", Busy::full, (x, v) -> x.proved(v), BAD, -1, 8);
        refused.is("meant without deeds", NeverSaid::new, x -> x.meant(0), BAD);
        refused.is("proved without deeds", NeverSaid::new, x -> x.proved(0), BAD);
        refused.is("fewest without deeds", NeverSaid::new, x -> x.fewest(0, 0), BAD);
        due.is("the last deed, meant", Busy.full().meant(7), 0);
        due.is("the last deed, proved", Busy.full().proved(7), 4095 & ~(1 | 3 << 10));
    }

    /** "above (part 0), below the line (1). BAD."; "(Where a long is told, BAD is it, too.)" */
    private static void fallsRefused() {
        refused.each("falls(0, part)", Busy::hall, (x, v) -> x.falls(0, v), -1000000001L, -1, 2, 3, MIN, MAX);
        refused.each("falls(person, 0)", Busy::hall, (x, v) -> x.falls(v, 0), -1000000001L, -1, 7, 12, MIN, MAX);
        refused.each("falls(person, 1)", Busy::hall, (x, v) -> x.falls(v, 1), -1000000001L, -1, 7, 12, MIN, MAX);
        refused.each("full: falls(person, 0)", Busy::full, (x, v) -> x.falls(v, 0), -1000000001L, -1, 12);
    }

    private static void fallsIs(String what, NeverSaid x, int p, long above, long below) {
        due.is("above, " + what, x.falls(p, 0), above);
        due.is("below, " + what, x.falls(p, 1), below);
    }

    /** "(0 / 1 for 0)": without DEEDS, and for one who is LEFT on none. */
    private static void fallsNothing() {
        fallsIs("without deeds", Busy.speakers(12), 11, 0, 1);
        NeverSaid x = hall(12, 1);
        x.deed(1, 0, 0);
        x.say(0, 0, 11);
        x.say(0, 1, 11);
        fallsIs("left on none", x, 11, 0, 1);
        fallsIs("left on both", x, 10, 2, 11);
    }

    /** "one part of as many as are LEFT, together, in lowest terms". */
    private static void fallsInLowestTerms() {
        for (int many = 1; many <= 12; many++) {
            fallsIs("one of " + many, hall(many, 1), many - 1, 1, many);
        }
        NeverSaid x = hall(6, 1);
        x.deed(1, 0, 0);
        fallsIs("1/6 and 1/6", x, 0, 1, 3);
        for (int p = 5; p >= 3; p--) {
            x.say(0, 1, p);
        }
        fallsIs("1/6 and 1/3", x, 0, 1, 2);
        x.say(0, 0, 5);
        fallsIs("1/5 and 1/3", x, 0, 8, 15);
        fallsIs("1/5 alone", x, 4, 1, 5);
        fallsIs("nothing", x, 5, 0, 1);
        // 1/12 + 1/11 + .. + 1/5, over the least line that all of these have
        NeverSaid y = Busy.speakers(12);
        for (int d = 0; d < 8; d++) {
            y.deed(1, 0, 0);
            for (int p = 0; p < d; p++) {
                y.say(0, d, p);
            }
        }
        fallsIs("eight parts", y, 11, 28271, 27720);
        fallsIs("two parts, 1/12 + 1/11", y, 1, 23, 132);
    }

    /** As much as can fall on one: all of eight DEEDS. */
    private static void fallsAboveOne() {
        NeverSaid x = Busy.speakers(1);
        for (int d = 1; d <= 8; d++) {
            x.deed(1, 0, 0);
            fallsIs("alone, " + d + " deeds", x, 0, d, 1);
        }
        NeverSaid y = Busy.speakers(2);
        for (int d = 1; d <= 8; d++) {
            y.deed(1, 0, 0);
            fallsIs("one of two, " + d + " deeds", y, 1, d % 2 == 0 ? d / 2 : d, d % 2 == 0 ? 1 : 2);
        }
    }

    /** "MOST: the one on whom most FALLS; of several the least number." */
    private static void mostOfSeveral() {
        for (int many = 1; many <= 12; many++) {
            due.is("without deeds, of " + many, Busy.speakers(many).most(), 0);
        }
        NeverSaid x = hall(12, 1);
        for (int p = 0; p < 12; p++) {
            due.is("the least who is left", x.most(), p);
            x.say(0, 0, p);
        }
        due.is("nothing falls on anybody", x.most(), 0);
    }

    /** "NONE: nobody is there." */
    private static void mostOfNobody() {
        NeverSaid x = new NeverSaid();
        due.is("nobody", x.most(), NONE);
        x.person(0, 0);
        due.is("one", x.most(), 0);
        refused.is("nobody is there", NeverSaid::new, NeverSaid::most, NONE);
    }

    /** Fractions that are near one another: 1/11 and 1/12. */
    private static void mostByFractions() {
        NeverSaid x = Busy.speakers(12);
        x.deed(1, 0, 0);
        x.deed(1, 0, 0);
        x.say(0, 0, 11);
        x.say(0, 1, 0);
        due.is("1 to 10: twice 1/11", x.most(), 1);
        x.say(0, 1, 1);
        // 1 has 1/11 then, 2 has 1/11 and 1/10, 0 has 1/11
        due.is("the least of those with both", x.most(), 2);
        NeverSaid y = Busy.speakers(3);
        y.stop(0);
        y.deed(1, 0, 0);
        y.deed(1, 0, 0);
        y.deed(1, 0, 0);
        y.say(0, 0, 2);
        y.say(0, 1, 2);
        y.say(0, 2, 0);
        y.say(0, 2, 1);
        // 0 and 1 have 1/2 and 1/2, 2 has 1/1
        due.is("as much on all three", y.most(), 0);
        y.say(0, 1, 0);
        y.say(0, 0, 1);
        // 0 has 1/1, 1 has 1/1, 2 has 1/1
        due.is("again as much on all", y.most(), 0);
        y.say(0, 0, 0);
        due.is("nothing on 0 any more", y.most(), 1);
    }

    /** What only tells changes nothing, though it works out what would be. */
    private static void tellingChangesNothing() {
        refused.is("silent()", Busy::hall, x -> Math.min(0, x.silent()), 0);
        refused.is("most()", Busy::hall, x -> Math.min(0, x.most()), 0);
        refused.is("fewest(1, 1)", Busy::hall, x -> x.fewest(1, 1) == BAD ? BAD : 0, 0);
        refused.is("meant(2)", Busy::hall, x -> Math.min(0, x.meant(2)), 0);
        refused.is("proved(0)", Busy::hall, x -> Math.min(0, x.proved(0)), 0);
        refused.is("falls(0, 0)", Busy::hall, x -> Math.min(0, x.falls(0, 0)), 0);
    }
}
