import com.sun.management.ThreadMXBean;
import java.lang.management.ManagementFactory;

/** All calls of one run live in one room: what is made is made with the object, but for a TEXT and its steps. */
public final class RoomTest {
    private static final int TIMES = 100, BYTES_OF_AN_OBJECT = 24000, BYTES_OF_A_TEXT = 500;
    private static final ThreadMXBean ROOM = (ThreadMXBean) ManagementFactory.getThreadMXBean();
    private static final Due due = new Due();
    private static NeverSaid x = Busy.full();

    private interface Act {
        void run();
    }

    public static void main(String[] args) {
        atMost("a new object", TIMES * BYTES_OF_AN_OBJECT, () -> x = new NeverSaid());
        texts();
        x = Busy.hall();
        x.keep();
        people();
        deeds();
        outcome();
        sheetsAndSlots();
        rowsAndImages();
        due.end();
    }

    /** How many bytes the act has made when it is done many times; the first times Java itself gets ready for it. */
    private static long bytesOf(Act act) {
        long made = 0;
        for (int pass = 0; pass < 3; pass++) {
            long before = ROOM.getCurrentThreadAllocatedBytes();
            for (int i = 0; i < TIMES; i++) {
                act.run();
            }
            made = ROOM.getCurrentThreadAllocatedBytes() - before;
        }
        return made;
    }

    private static void atMost(String what, long most, Act act) {
        long made = bytesOf(act);
        due.is(what + " makes no more than " + most + " bytes (" + made + ")", made <= most ? 1 : 0, 1);
    }

    private static void nothing(String call, Act act) {
        atMost(call, 0, act);
    }

    private static void texts() {
        String[] longest = {"may 1" + "+1".repeat(45), "may " + "1".repeat(92), "may " + "!".repeat(92)};
        for (String text : longest) {
            int[] n = new int[24];
            for (int i = 0; i < 96; i++) {
                n[i / 4] = n[i / 4] << 8 | (i < text.length() ? text.charAt(i) : ' ');
            }
            x = new NeverSaid();
            nothing("feed", () -> feed(n));
            atMost("text of " + text, TIMES * BYTES_OF_A_TEXT, () -> {
                feed(n);
                x.text();
            });
        }
        nothing("textTold, why, trim", () -> {
            x.textTold(0, 1);
            x.why(0);
            x.trim(0);
        });
    }

    private static void feed(int[] n) {
        for (int i = 0; i < n.length; i += 3) {
            x.feed(n[i], n[i + 1], n[i + 2]);
        }
    }

    private static void people() {
        nothing("told, as, turns, bolder", () -> {
            x.told(0, 4);
            x.as(0, 0);
            x.turns(0, 3);
            x.bolder(0, 50);
        });
        nothing("away, friend, follow", () -> {
            x.away(0, 3, 1);
            x.friend(0, 1, 1);
            x.follow(0, 1, 1);
        });
        nothing("person, deal, seed", () -> {
            x.back();
            x.person(1, 1);
            x.deal(12);
            x.seed(7);
        });
    }

    private static void deeds() {
        nothing("deed, deedTold, again, stop", () -> {
            x.back();
            x.deed(1, 1, 1);
            x.deedTold(0, 6);
            x.again(0);
            x.stop(1);
        });
        nothing("say, choice, rounds", () -> {
            x.say(0, 0, 1);
            x.choice(0, 0);
            x.rounds(0, 40);
        });
    }

    private static void outcome() {
        nothing("fewest, silent, meant, proved, falls, most", () -> {
            x.fewest(0, 1);
            x.silent();
            x.meant(0);
            x.proved(0);
            x.falls(0, 0);
            x.most();
        });
    }

    private static void sheetsAndSlots() {
        nothing("sheet, mark, pour, reads, copy", () -> {
            x.sheet(0, 1, 24);
            x.mark(0, 0, 5);
            x.pour(0);
            x.reads(0);
            x.copy(0, 0, 0, 1, 9);
        });
        nothing("lay, ask, item, rest", () -> {
            x.lay(0, 2, 0);
            x.item(0, 0);
            x.lay(0, 1, 0);
            x.ask(0, 0);
            x.lay(0, 3, 9);
            x.rest(0, 2);
        });
    }

    private static void rowsAndImages() {
        nothing("tell, check, keep, back, count", () -> {
            x.tell(3);
            x.check(0, 30);
            x.keep();
            x.back();
            x.count(3);
        });
    }
}
