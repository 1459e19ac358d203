/** Promises 19 to 24: what comes out. */
public final class OutcomeTest {
    private static final int BAD = NeverSaid.BAD, NONE = NeverSaid.NONE;
    private static final Due due = new Due();

    public static void main(String[] args) {
        fewest();
        fewestInRings();
        fewestOfDoersAlone();
        silent();
        meant();
        proved();
        falls();
        most();
        due.end();
    }

    private static NeverSaid speakers(int many) {
        NeverSaid x = new NeverSaid();
        for (int i = 0; i < many; i++) {
            x.person(0, 50);
        }
        return x;
    }

    private static void fewest() {
        NeverSaid x = speakers(6);
        x.deed(32, 0, 0);
        due.is("each by itself", x.fewest(0, 0), 5);
        due.is("each by itself, bits", x.fewest(0, 1), 31);
        x.follow(4, 0, 1);
        x.follow(4, 1, 1);
        x.follow(2, 1, 1);
        due.is("three", x.fewest(0, 0), 3);
        due.is("three, bits", x.fewest(0, 1), 28);
        x.say(0, 0, 4);
        due.is("left does not matter", x.fewest(0, 1), 28);
        x.follow(5, 3, 1);
        due.is("who follows from a doer", x.fewest(0, 1), 28);
        x.follow(3, 5, 1);
        due.is("a doer goes by 3", x.fewest(0, 0), NONE);
        due.is("a doer goes by 3, bits", x.fewest(0, 1), NONE);
        due.is("fewest(0, 2)", x.fewest(0, 2), BAD);
        due.is("fewest(0, -1)", x.fewest(0, -1), BAD);
        due.is("fewest(1, 0)", x.fewest(1, 0), BAD);
        due.is("fewest(-1, 0)", x.fewest(-1, 0), BAD);
    }

    private static void fewestInRings() {
        NeverSaid x = speakers(7);
        x.deed(64, 0, 0);
        int[][] follows = {{3, 1}, {1, 5}, {5, 3}, {3, 0}, {4, 2}, {2, 4}};
        for (int[] f : follows) {
            x.follow(f[0], f[1], 1);
        }
        due.is("the least of each ring", x.fewest(0, 1), 6);
        due.is("two rings", x.fewest(0, 0), 2);
        x.follow(4, 5, 1);
        due.is("one ring behind the other", x.fewest(0, 1), 4);
    }

    private static void fewestOfDoersAlone() {
        NeverSaid x = speakers(2);
        x.deed(3, 0, 0);
        due.is("nobody", x.fewest(0, 0), 0);
        due.is("nobody, bits", x.fewest(0, 1), 0);
    }

    private static void silent() {
        NeverSaid x = speakers(5);
        due.is("without deeds all", x.silent(), 31);
        x.deed(1, 0, 0);
        x.deed(1, 0, 0);
        x.say(0, 0, 1);
        x.say(0, 1, 3);
        due.is("left on all", x.silent(), 21);
        x.person(0, 0);
        due.is("who comes later, too", x.silent(), 53);
    }

    private static void meant() {
        NeverSaid x = speakers(6);
        x.deed(1, 0, 0);
        due.is("nobody was spoken of", x.meant(0), 0);
        x.say(0, 0, 0);
        due.is("nobody below", x.meant(0), 0);
        x.say(0, 0, 4);
        due.is("passed over", x.meant(0), 14);
        x.say(0, 0, 2);
        due.is("left and passed over", x.meant(0), 10);
        due.is("meant(1)", x.meant(1), BAD);
        due.is("meant(-1)", x.meant(-1), BAD);
    }

    private static void proved() {
        NeverSaid x = speakers(4);
        x.deed(1, 7, 0);
        due.is("all were there", x.proved(0), 15);
        x.away(1, 7, 1);
        x.away(2, 8, 1);
        due.is("one was away", x.proved(0), 13);
        x.follow(1, 0, 1);
        x.follow(0, 3, 1);
        due.is("with all who follow, past stop", x.proved(0), 4);
        due.is("all are left still", x.deedTold(0, 3), 15);
        x.away(1, 7, 0);
        x.say(0, 0, 2);
        due.is("of those who are left", x.proved(0), 11);
        x.away(2, 7, 1);
        due.is("away, and gone already", x.proved(0), 11);
        due.is("proved(1)", x.proved(1), BAD);
        due.is("proved(-1)", x.proved(-1), BAD);
    }

    private static void falls() {
        NeverSaid x = speakers(12);
        due.is("without deeds", x.falls(3, 0), 0);
        due.is("without deeds, below", x.falls(3, 1), 1);
        for (int d = 0; d < 8; d++) {
            x.deed(1, 0, 0);
        }
        due.is("8/12", x.falls(3, 0), 2);
        due.is("8/12, below", x.falls(3, 1), 3);
        x.stop(0);
        for (int d = 0; d < 8; d++) {
            for (int p = 0; p < d; p++) {
                x.say(0, d, p);
            }
        }
        // 1/12 + 1/11 + 1/10 + 1/9 + 1/8 + 1/7 + 1/6 + 1/5 = 28271/27720
        due.is("eight parts", x.falls(11, 0), 28271);
        due.is("eight parts, below", x.falls(11, 1), 27720);
        due.is("one part", x.falls(0, 0), 1);
        due.is("one part, below", x.falls(0, 1), 12);
        due.is("falls(12, 0)", x.falls(12, 0), BAD);
        due.is("falls(-1, 0)", x.falls(-1, 0), BAD);
        due.is("falls(0, 2)", x.falls(0, 2), BAD);
        due.is("falls(0, -1)", x.falls(0, -1), BAD);
        NeverSaid y = speakers(2);
        y.deed(1, 0, 0);
        y.stop(0);
        y.say(0, 0, 1);
        due.is("nothing", y.falls(1, 0), 0);
        due.is("nothing, below", y.falls(1, 1), 1);
        due.is("all of it", y.falls(0, 0), 1);
        due.is("all of it, below", y.falls(0, 1), 1);
    }

    private static void most() {
        NeverSaid x = speakers(4);
        due.is("without deeds the least", x.most(), 0);
        x.deed(1, 0, 0);
        x.deed(1, 0, 0);
        due.is("of several the least", x.most(), 0);
        x.say(0, 0, 0);
        due.is("the least of the three", x.most(), 1);
        x.say(0, 1, 1);
        due.is("the least of the two", x.most(), 2);
        x.say(0, 0, 2);
        due.is("one", x.most(), 3);
        due.is("nobody is there", new NeverSaid().most(), NONE);
    }
}
