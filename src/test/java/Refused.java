import java.util.ArrayList;
import java.util.List;

/**
 * A refused call, and what other calls show afterwards: of two objects made alike one gets the call; then both are
 * looked at in every way that there is, and must show the same. A look may change what it looks at: each look has two
 * objects of its own.
 */
final class Refused {
    interface Making {
        NeverSaid make();
    }

    interface Call {
        long on(NeverSaid x);
    }

    interface CallWith {
        long on(NeverSaid x, int v);
    }

    private interface Look {
        void at(NeverSaid x, List<Long> row);
    }

    /** The document leaves free what an object answers behind its 512th call; those that made it come ahead. */
    private static final int CALLS_OF_A_LOOK = 330;

    private static final Look[] LOOKS = {Refused::hall, Refused::choices, Refused::follows, Refused::sheets,
        Refused::slots, Refused::waiting, Refused::tape, Refused::image, Refused::rounds};

    private final Due due;

    Refused(Due due) {
        this.due = due;
    }

    /** The call answers what is due, and nothing is otherwise then. */
    void is(String call, Making making, Call refused, long want) {
        isThen(call, making, refused, want, making);
    }

    /** The same for each of these values. */
    void each(String call, Making making, CallWith refused, long want, int... values) {
        for (int v : values) {
            is(call + " with " + v, making, x -> refused.on(x, v), want);
        }
    }

    /** Where a call may change something by the document: then tells how an object is made that is as due. */
    void isThen(String call, Making making, Call refused, long want, Making then) {
        for (int i = 0; i < LOOKS.length; i++) {
            NeverSaid x = making.make();
            due.is(call, refused.on(x), want);
            due.is(call + ": first thing that is otherwise in look " + i, firstOtherwise(LOOKS[i], x, then.make()), -1);
        }
    }

    private int firstOtherwise(Look look, NeverSaid x, NeverSaid y) {
        List<Long> seen = new ArrayList<>();
        List<Long> wanted = new ArrayList<>();
        look.at(x, seen);
        look.at(y, wanted);
        due.is("a look is not too long", seen.size() <= CALLS_OF_A_LOOK ? 1 : 0, 1);
        for (int i = 0; i < wanted.size(); i++) {
            if (i >= seen.size() || !seen.get(i).equals(wanted.get(i))) {
                return i;
            }
        }
        return seen.size() == wanted.size() ? -1 : wanted.size();
    }

    private static void add(List<Long> row, long... answers) {
        for (long answer : answers) {
            row.add(answer);
        }
    }

    private static void hall(NeverSaid x, List<Long> row) {
        for (int what = 0; what < 9; what++) {
            add(row, x.count(what));
        }
        for (int p = 0; p <= x.count(0); p++) {
            for (int what = 0; what < 7; what++) {
                add(row, x.told(p, what));
            }
            add(row, x.falls(p, 0), x.falls(p, 1));
        }
        for (int d = 0; d <= x.count(1); d++) {
            for (int what = 0; what < 8; what++) {
                add(row, x.deedTold(d, what));
            }
            add(row, x.fewest(d, 1), x.meant(d), x.proved(d));
        }
        for (int t = 0; t <= x.count(5); t++) {
            add(row, x.textTold(t, 0), x.textTold(t, 1));
        }
        add(row, x.why(0), x.why(1), x.why(2), x.silent(), x.most());
    }

    private static void choices(NeverSaid x, List<Long> row) {
        for (int s = 0; s <= x.count(0); s++) {
            for (int d = 0; d <= x.count(1); d++) {
                add(row, x.choice(s, d));
            }
        }
    }

    private static void follows(NeverSaid x, List<Long> row) {
        for (int p = 0; p < x.count(0); p++) {
            for (int q = 0; q < x.count(0); q++) {
                add(row, x.follow(p, q, 0));
            }
        }
    }

    private static void sheets(NeverSaid x, List<Long> row) {
        for (int s = 0; s < 4; s++) {
            add(row, x.reads(s), x.lay(4, 2, s));
            for (int place = 0; place < 25; place++) {
                add(row, x.item(4, place));
            }
            x.lay(4, 0, 0);
        }
        for (int s = 0; s < 3; s++) {
            add(row, x.copy(3, 0, s, 0, 0));
        }
        // what the last one was of is known by the others, and these by a row of floats in its stead
        x.sheet(3, 1, 0);
        for (int s = 0; s < 3; s++) {
            add(row, x.copy(3, 0, s, 0, 0));
        }
    }

    private static void slots(NeverSaid x, List<Long> row) {
        for (int slot = 0; slot < 5; slot++) {
            for (int kind = 0; kind < 6; kind++) {
                add(row, x.ask(slot, kind));
            }
            for (int place = 0; place < 25; place++) {
                add(row, x.item(slot, place));
            }
            add(row, x.rest(slot, Integer.MIN_VALUE), x.rest(slot, -7), x.lay(slot, 0, 0));
        }
    }

    private static void waiting(NeverSaid x, List<Long> row) {
        int many = x.count(6);
        add(row, many, x.check(0, Math.max(1, many / 2)), x.count(6));
    }

    private static void tape(NeverSaid x, List<Long> row) {
        int number = x.count(5);
        add(row, x.count(7), x.text(), x.count(7), x.textTold(number, 0), x.textTold(number, 1));
        add(row, x.why(0), x.why(1), x.why(2));
        choices(x, row);
        for (int d = 0; d < x.count(1); d++) {
            add(row, x.deedTold(d, 6));
        }
    }

    private static void image(NeverSaid x, List<Long> row) {
        add(row, x.back());
        hall(x, row);
    }

    private static void rounds(NeverSaid x, List<Long> row) {
        for (int d = 0; d < x.count(1); d++) {
            add(row, x.rounds(d, 3));
        }
        hall(x, row);
    }
}
