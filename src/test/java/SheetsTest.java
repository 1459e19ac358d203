/** Promises 30 to 38: sheets and slots. */
public final class SheetsTest {
    private static final int BAD = NeverSaid.BAD, NO = NeverSaid.NO, NONE = NeverSaid.NONE;
    private static final int NOTHING = NeverSaid.NOTHING, KIND = NeverSaid.KIND;
    private static final int INDEX = NeverSaid.INDEX, SIZE = NeverSaid.SIZE;
    private static final int SHORTS = 0, FLOATS = 1;
    private static final Due due = new Due();

    public static void main(String[] args) {
        sheet();
        mark();
        pour();
        reads();
        copy();
        copyWithinOne();
        copyOfNone();
        lay();
        layIsForGood();
        ask();
        item();
        rest();
        due.end();
    }

    /** What stands at a place of a sheet, by way of a slot. */
    private static int at(NeverSaid x, int sheet, int place) {
        x.lay(4, 2, sheet);
        return x.item(4, place);
    }

    private static void sheet() {
        NeverSaid x = new NeverSaid();
        due.is("sheet(4, 0, 1)", x.sheet(4, 0, 1), BAD);
        due.is("sheet(-1, 0, 1)", x.sheet(-1, 0, 1), BAD);
        due.is("sheet(0, 2, 1)", x.sheet(0, 2, 1), BAD);
        due.is("sheet(0, -2, 1)", x.sheet(0, -2, 1), BAD);
        due.is("sheet(0, 0, 25)", x.sheet(0, 0, 25), BAD);
        due.is("sheet(0, 0, -1)", x.sheet(0, 0, -1), SIZE);
        due.is("sheet(0, 2, -1)", x.sheet(0, 2, -1), BAD);
        due.is("still missing", x.mark(0, 0, 0), NOTHING);
        due.is("sheet(3, 1, 24)", x.sheet(3, 1, 24), 24);
        due.is("all 0", at(x, 3, 23), 0);
        due.is("no more", at(x, 3, 24), INDEX);
        x.mark(3, 23, 9);
        x.mark(3, 0, 9);
        due.is("anew", x.sheet(3, 1, 24), 24);
        due.is("all 0 again", at(x, 3, 23), 0);
        due.is("the first, too", at(x, 3, 0), 0);
        due.is("sheet(3, 0, 0)", x.sheet(3, 0, 0), 0);
        due.is("no place, yet not missing", x.mark(3, 0, 0), INDEX);
        due.is("sheet(3, -1, 99)", x.sheet(3, -1, 99), 0);
        due.is("missing", x.mark(3, 0, 0), NOTHING);
        due.is("sheet(3, -1, -99)", x.sheet(3, -1, -99), 0);
        due.is("sheet(4, -1, 0)", x.sheet(4, -1, 0), BAD);
    }

    private static void mark() {
        NeverSaid x = new NeverSaid();
        x.sheet(0, SHORTS, 3);
        x.sheet(1, FLOATS, 3);
        due.is("mark(4, 0, 0)", x.mark(4, 0, 0), BAD);
        due.is("mark(-1, 0, 0)", x.mark(-1, 0, 0), BAD);
        due.is("mark(2, 9, NONE)", x.mark(2, 9, NONE), NOTHING);
        due.is("mark(0, 3, NONE)", x.mark(0, 3, NONE), INDEX);
        due.is("mark(0, -1, 0)", x.mark(0, -1, 0), INDEX);
        due.is("NONE in shorts", x.mark(0, 0, NONE), KIND);
        due.is("mark(1, 3, 100000)", x.mark(1, 3, 100000), INDEX);
        due.is("100000 in floats", x.mark(1, 0, 100000), BAD);
        due.is("-100000 in floats", x.mark(1, 0, -100000), BAD);
        due.is("MIN in floats", x.mark(1, 0, Integer.MIN_VALUE), BAD);
        int[] numbers = {32767, 32768, 65535, 65536, -32769, Integer.MIN_VALUE, 123456};
        for (int v : numbers) {
            due.is("mark(0, 1, " + v + ")", x.mark(0, 1, v), 1);
            due.is("lowest 16 bits of " + v, at(x, 0, 1), (short) v);
        }
        due.is("99999 in floats", x.mark(1, 0, 99999), 1);
        due.is("-99999 in floats", x.mark(1, 1, -99999), 1);
        due.is("no number in floats", x.mark(1, 2, NONE), 1);
        due.is("it is 99999", at(x, 1, 0), 99999);
        due.is("it is -99999", at(x, 1, 1), -99999);
        due.is("it is no number", at(x, 1, 2), KIND);
        due.is("a number again", x.mark(1, 2, 4), 1);
        due.is("it is 4", at(x, 1, 2), 4);
    }

    private static void pour() {
        NeverSaid x = new NeverSaid();
        for (int i = 0; i < 6; i++) {
            x.person(0, 50);
        }
        due.is("pour(4)", x.pour(4), BAD);
        due.is("pour(-1)", x.pour(-1), BAD);
        due.is("pour(0)", x.pour(0), NOTHING);
        x.sheet(0, FLOATS, 5);
        int[] places = {50, 101, -1, NONE, 7};
        for (int i = 0; i < 5; i++) {
            x.mark(0, i, places[i]);
        }
        due.is("pour", x.pour(0), 3);
        int[] bold = {50, 100, 0, 50, 7, 50};
        for (int p = 0; p < 6; p++) {
            due.is("bold of " + p, x.told(p, 1), bold[p]);
        }
        due.is("pour again", x.pour(0), 0);
        x.sheet(1, SHORTS, 24);
        x.mark(1, 0, 65535);
        due.is("pour of more than there are", x.pour(1), 5);
        due.is("none other came", x.count(0), 6);
        x.sheet(1, SHORTS, 0);
        due.is("pour of none", x.pour(1), 0);
    }

    private static void reads() {
        NeverSaid x = new NeverSaid();
        for (int i = 0; i < 5; i++) {
            x.person(0, 50);
        }
        x.deed(1, 0, 0);
        x.deed(1, 0, 0);
        x.say(0, 1, 4);
        due.is("reads(4)", x.reads(4), BAD);
        due.is("reads(-1)", x.reads(-1), BAD);
        due.is("reads(0)", x.reads(0), NOTHING);
        x.sheet(0, FLOATS, 3);
        due.is("the first", x.reads(0), 0);
        x.mark(0, 0, 5);
        due.is("the second", x.reads(0), 1);
        x.mark(0, 1, 4);
        due.is("no such deed", x.reads(0), 2);
        x.mark(0, 2, NONE);
        due.is("there is none", x.reads(0), NONE);
        x.mark(0, 0, NONE);
        x.mark(0, 1, 3);
        due.is("of numbers alone", x.reads(0), 1);
        x.sheet(1, SHORTS, 1);
        x.mark(1, 0, 5);
        due.is("shorter than the deeds", x.reads(1), NONE);
        x.sheet(1, SHORTS, 0);
        due.is("no place", x.reads(1), NONE);
    }

    private static void copy() {
        NeverSaid x = new NeverSaid();
        x.sheet(0, FLOATS, 4);
        x.sheet(1, FLOATS, 6);
        x.sheet(2, SHORTS, 4);
        due.is("from 4", x.copy(4, 0, 0, 0, 1), BAD);
        due.is("from -1", x.copy(-1, 0, 0, 0, 1), BAD);
        due.is("to 4", x.copy(0, 0, 4, 0, 1), BAD);
        due.is("from a missing one to none", x.copy(3, 0, 4, 0, 1), BAD);
        due.is("from a missing one", x.copy(3, 0, 0, 9, 1), NOTHING);
        due.is("to a missing one", x.copy(0, 0, 3, 9, 1), NOTHING);
        due.is("of two sorts", x.copy(0, 9, 2, 0, 1), KIND);
        due.is("many below 0", x.copy(0, 0, 1, 0, -1), INDEX);
        due.is("place below 0", x.copy(0, -1, 1, 0, 1), INDEX);
        due.is("at below 0", x.copy(0, 0, 1, -1, 1), INDEX);
        due.is("too many there", x.copy(0, 1, 1, 0, 4), INDEX);
        due.is("too many here", x.copy(0, 0, 1, 3, 4), INDEX);
        due.is("far too many", x.copy(0, 1, 1, 1, Integer.MAX_VALUE), INDEX);
        due.is("far away", x.copy(0, Integer.MAX_VALUE, 1, 1, Integer.MAX_VALUE), INDEX);
        for (int i = 0; i < 4; i++) {
            x.mark(0, i, i == 2 ? NONE : 10 + i);
        }
        due.is("copy", x.copy(0, 1, 1, 3, 3), 3);
        int[] want = {0, 0, 0, 11, KIND, 13};
        for (int i = 0; i < 6; i++) {
            due.is("place " + i, at(x, 1, i), want[i]);
        }
        due.is("from there still", at(x, 0, 1), 11);
    }

    private static void copyWithinOne() {
        NeverSaid x = new NeverSaid();
        x.sheet(0, SHORTS, 5);
        for (int i = 0; i < 5; i++) {
            x.mark(0, i, i);
        }
        due.is("onwards", x.copy(0, 0, 0, 1, 4), 4);
        int[] on = {0, 0, 1, 2, 3};
        for (int i = 0; i < 5; i++) {
            due.is("as they were, place " + i, at(x, 0, i), on[i]);
        }
        due.is("backwards", x.copy(0, 2, 0, 0, 3), 3);
        int[] back = {1, 2, 3, 2, 3};
        for (int i = 0; i < 5; i++) {
            due.is("as they were then, place " + i, at(x, 0, i), back[i]);
        }
    }

    private static void copyOfNone() {
        NeverSaid x = new NeverSaid();
        x.sheet(0, SHORTS, 2);
        x.sheet(1, SHORTS, 0);
        due.is("none, behind the last one", x.copy(0, 2, 0, 2, 0), 0);
        due.is("none, of a row of none", x.copy(1, 0, 1, 0, 0), 0);
        due.is("none, further behind", x.copy(0, 3, 0, 0, 0), INDEX);
        due.is("none, to further behind", x.copy(0, 0, 1, 1, 0), INDEX);
        due.is("none, below 0", x.copy(0, -1, 0, 0, 0), INDEX);
        due.is("one, behind the last one", x.copy(0, 2, 0, 0, 1), INDEX);
    }

    private static void lay() {
        NeverSaid x = new NeverSaid();
        x.person(0, 0);
        x.sheet(3, SHORTS, 1);
        due.is("lay(5, 0, 0)", x.lay(5, 0, 0), BAD);
        due.is("lay(-1, 0, 0)", x.lay(-1, 0, 0), BAD);
        due.is("lay(0, 4, 0)", x.lay(0, 4, 0), BAD);
        due.is("lay(0, -1, 0)", x.lay(0, -1, 0), BAD);
        due.is("lay(0, 1, 1)", x.lay(0, 1, 1), BAD);
        due.is("lay(0, 1, -1)", x.lay(0, 1, -1), BAD);
        due.is("lay(0, 2, 4)", x.lay(0, 2, 4), BAD);
        due.is("lay(0, 2, -1)", x.lay(0, 2, -1), BAD);
        due.is("lay(0, 2, 0)", x.lay(0, 2, 0), NOTHING);
        due.is("nothing yet", x.lay(0, 0, -77), 0);
        due.is("one", x.lay(0, 1, 0), 0);
        due.is("a sheet", x.lay(0, 2, 3), 1);
        due.is("a number", x.lay(0, 3, Integer.MIN_VALUE), 2);
        due.is("refused", x.lay(0, 2, 0), NOTHING);
        due.is("it stays", x.rest(0, 10), -8);
        due.is("nothing", x.lay(0, 0, 99), 3);
        due.is("nothing then", x.lay(0, 0, 0), 0);
        due.is("rest of nothing", x.rest(0, 1), NOTHING);
    }

    private static void layIsForGood() {
        NeverSaid x = new NeverSaid();
        x.keep();
        x.person(5, 30);
        x.sheet(0, FLOATS, 2);
        x.mark(0, 1, 8);
        x.lay(0, 1, 0);
        x.lay(1, 2, 0);
        x.turns(0, 0);
        x.bolder(0, 1);
        x.mark(0, 1, 9);
        due.is("as it was", x.ask(0, 5), 300);
        due.is("a row of its own", x.item(1, 1), 8);
        x.sheet(0, -1, 0);
        due.is("though it is missing", x.item(1, 1), 8);
        x.back();
        due.is("though nobody is there", x.ask(0, 0), 300);
        due.is("slots stay", x.lay(1, 0, 0), 2);
    }

    private static void ask() {
        NeverSaid x = new NeverSaid();
        int[] worth = {20, 25, 80, 50, 73, 200};
        int[] of = {1, 3, 5, 11, 21, 33};
        for (int kind = 0; kind < 6; kind++) {
            x.person(kind, 20);
            x.lay(3, 1, kind);
            for (int wanted = 0; wanted < 6; wanted++) {
                boolean is = (of[kind] >> wanted & 1) == 1;
                due.is("kind " + kind + " taken for " + wanted, x.ask(3, wanted), is ? worth[kind] : KIND);
            }
        }
        due.is("ask(5, 0)", x.ask(5, 0), BAD);
        due.is("ask(-1, 0)", x.ask(-1, 0), BAD);
        due.is("ask(0, 6), nothing there", x.ask(0, 6), BAD);
        due.is("ask(0, -1)", x.ask(0, -1), BAD);
        due.is("ask(0, 0), nothing there", x.ask(0, 0), NOTHING);
        x.lay(0, 3, 1);
        due.is("ask(0, 0), a number", x.ask(0, 0), KIND);
        x.sheet(0, SHORTS, 0);
        x.lay(0, 2, 0);
        due.is("ask(0, 0), a sheet", x.ask(0, 0), KIND);
    }

    private static void item() {
        NeverSaid x = new NeverSaid();
        x.person(0, 0);
        x.sheet(0, FLOATS, 2);
        x.mark(0, 0, -5);
        x.mark(0, 1, NONE);
        x.lay(0, 2, 0);
        x.lay(1, 1, 0);
        x.lay(2, 3, 0);
        due.is("item(5, 0)", x.item(5, 0), BAD);
        due.is("item(-1, 0)", x.item(-1, 0), BAD);
        due.is("item(3, -1), nothing", x.item(3, -1), NOTHING);
        due.is("item(1, -1), one", x.item(1, -1), KIND);
        due.is("item(2, 0), a number", x.item(2, 0), KIND);
        due.is("item(0, 2)", x.item(0, 2), INDEX);
        due.is("item(0, -1)", x.item(0, -1), INDEX);
        due.is("item(0, 0)", x.item(0, 0), -5);
        due.is("item(0, 1), no number", x.item(0, 1), KIND);
    }

    private static void rest() {
        NeverSaid x = new NeverSaid();
        x.person(0, 0);
        x.sheet(0, SHORTS, 1);
        x.lay(0, 3, -17);
        x.lay(1, 1, 0);
        x.lay(2, 2, 0);
        due.is("rest(5, 0)", x.rest(5, 0), BAD);
        due.is("rest(-1, 0)", x.rest(-1, 0), BAD);
        due.is("rest(3, 0), nothing", x.rest(3, 0), NOTHING);
        due.is("rest(1, 0), one", x.rest(1, 0), KIND);
        due.is("rest(2, 1), a sheet", x.rest(2, 1), KIND);
        due.is("rest(0, 0)", x.rest(0, 0), NO);
        due.is("rest(0, 5)", x.rest(0, 5), -2);
        due.is("rest(0, -5)", x.rest(0, -5), -2);
        x.lay(0, 3, Integer.MIN_VALUE);
        due.is("rest of MIN by -1", x.rest(0, -1), 0);
        x.lay(0, 3, 17);
        due.is("rest(0, -5) of 17", x.rest(0, -5), 2);
    }
}
