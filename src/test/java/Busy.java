/** Halls in which something of everything is there, so that a change anywhere can be seen. */
final class Busy {
    private Busy() {
    }

    /** Seven people, three deeds, four texts, an image that is otherwise than what is, and room for more of all. */
    static NeverSaid hall() {
        return made(true);
    }

    /** The same hall, but that no numbers wait. */
    static NeverSaid hallWithoutNumbers() {
        return made(false);
    }

    private static NeverSaid made(boolean numbersWait) {
        NeverSaid x = new NeverSaid();
        people(x);
        x.deed(9, 5, 20);
        x.deed(32, 23, 99);
        x.stop(1);
        x.seed(-77);
        Due.text(x, "may s+p<9");
        Due.text(x, "cost l*w+n");
        Due.text(x, "bold b+20");
        x.say(0, 1, 4);
        x.keep();
        playRounds(x, numbersWait);
        moveOn(x);
        sheets(x);
        slots(x);
        Due.write(x, "cost l*7+w-n/2");
        return x;
    }

    private static void people(NeverSaid x) {
        int[] bold = {30, 100, 55, 0, 70, 80};
        for (int kind = 0; kind < 6; kind++) {
            x.person(kind, bold[kind]);
        }
        x.away(0, 0, 1);
        x.away(1, 23, 1);
        x.away(4, 5, 1);
        x.friend(2, 4, 1);
        x.friend(0, 5, 1);
        x.follow(1, 2, 1);
        x.follow(2, 1, 1);
        x.follow(3, 0, 1);
    }

    /** What the rounds of the image come to waits, so that a check answers 0 as long as nothing was changed. */
    private static void playRounds(NeverSaid x, boolean told) {
        for (int i = 0; i < 2; i++) {
            x.rounds(0, 1);
            if (told) {
                x.tell(Integer.bitCount(x.deedTold(0, 3)));
                x.tell(x.deedTold(0, 5));
            }
        }
    }

    private static void moveOn(NeverSaid x) {
        x.person(0, 44);
        x.turns(3, 5);
        x.bolder(2, 56);
        x.away(6, 12, 1);
        x.friend(6, 1, 1);
        x.follow(5, 6, 1);
        x.deed(65, 12, 7);
        x.say(1, 2, 1);
        x.stop(3);
        x.seed(4711);
        Due.text(x, "may s+p<11");
    }

    private static void sheets(NeverSaid x) {
        x.sheet(0, 0, 4);
        x.sheet(1, 1, 5);
        x.sheet(2, 1, 0);
        for (int i = 0; i < 4; i++) {
            x.mark(0, i, 7 - 3 * i);
            x.mark(1, i, i == 2 ? NeverSaid.NONE : 99999 - i);
        }
    }

    private static void slots(NeverSaid x) {
        x.lay(0, 1, 4);
        x.lay(1, 2, 0);
        x.lay(2, 3, -1234567);
        x.lay(3, 2, 1);
    }

    /** As many of everything as there can be; nobody is bold, so that all are left in every round. */
    static NeverSaid full() {
        NeverSaid x = new NeverSaid();
        for (int i = 0; i < 12; i++) {
            x.person(i % 6, 0);
        }
        x.friend(0, 11, 1);
        x.follow(11, 10, 1);
        x.away(11, 23, 1);
        for (int i = 0; i < 8; i++) {
            x.deed(1 << i | 1 << 11, 16 + i, 92 + i);
        }
        String[] laws = {"may 1", "cost w", "bold b"};
        for (int i = 0; i < 14; i++) {
            Due.text(x, laws[i % 3]);
        }
        x.say(0, 7, 0);
        x.keep();
        for (int i = 0; i < 30; i++) {
            x.tell(12);
            x.tell(0);
        }
        for (int i = 0; i < 4; i++) {
            x.sheet(i, i % 2, 24);
            x.mark(i, 23, 9 + i);
            x.lay(i, 2, i);
        }
        x.lay(4, 3, 9);
        Due.write(x, "may 1" + "+1".repeat(45) + " ");
        return x;
    }

    /** So many speakers, half as bold as can be. */
    static NeverSaid speakers(int many) {
        NeverSaid x = new NeverSaid();
        for (int i = 0; i < many; i++) {
            x.person(0, 50);
        }
        return x;
    }
}
