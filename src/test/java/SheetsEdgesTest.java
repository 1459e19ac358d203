/** Promises 30 to 38 and the terms that they stand on, at their bounds: a sentence of the document for each test. */
public final class SheetsEdgesTest {
    private static final int BAD = NeverSaid.BAD, NO = NeverSaid.NO, NONE = NeverSaid.NONE;
    private static final int NOTHING = NeverSaid.NOTHING, KIND = NeverSaid.KIND;
    private static final int INDEX = NeverSaid.INDEX, SIZE = NeverSaid.SIZE;
    private static final int MIN = Integer.MIN_VALUE, MAX = Integer.MAX_VALUE;
    private static final int SHORTS = 0, FLOATS = 1;
    /** Of which kinds one of each kind is, as bits. */
    private static final int[] OF = {1, 3, 5, 11, 21, 33};
    private static final Due due = new Due();
    private static final Refused refused = new Refused(due);
    private static final Refused.Making ROWS = SheetsEdgesTest::rows;

    public static void main(String[] args) {
        sheetPlaces();
        sheetAllZero();
        sheetMissing();
        sheetRefused();
        badAheadOfSize();
        fourSheets();
        markPlaces();
        markShorts();
        markFloats();
        markNoNumber();
        markRefused();
        markFirstRefusal();
        pourHeldWithin();
        pourHowManyAreOtherwise();
        pourNoNumberStays();
        pourBeyond();
        pourRefused();
        readsEachDeed();
        readsNumbersAlone();
        readsNoDeed();
        readsRefused();
        copyBounds();
        copyOfNone();
        copyManyBelowZero();
        copyAsTheyWere();
        copyOfAll();
        copyRefused();
        copyFirstRefusal();
        layThings();
        layBounds();
        layMissing();
        layForGood();
        askKinds();
        askRefused();
        itemPlaces();
        itemRefused();
        restCutsTowardsZero();
        restRefused();
        due.end();
    }

    /** What stands at a place of a sheet, by way of the last slot. */
    private static int at(NeverSaid x, int sheet, int place) {
        x.lay(4, 2, sheet);
        return x.item(4, place);
    }

    /** "with 0 to 24 places"; "A SHEET becomes a row of n places of a sort .. : n". */
    private static void sheetPlaces() {
        for (int sort = 0; sort < 2; sort++) {
            for (int n : new int[] {0, 1, 2, 23, 24}) {
                NeverSaid x = new NeverSaid();
                due.is("sheet(3, " + sort + ", " + n + ")", x.sheet(3, sort, n), n);
                due.is("ahead of the first", x.mark(3, -1, 5), INDEX);
                due.is("the first", x.mark(3, 0, 5), n > 0 ? 1 : INDEX);
                due.is("the last", x.mark(3, n - 1, 5), n > 0 ? 1 : INDEX);
                due.is("behind the last", x.mark(3, n, 5), INDEX);
            }
        }
    }

    /** "all 0": what stood there is gone, of either sort, and behind a shorter one, too. */
    private static void sheetAllZero() {
        for (int sort = 0; sort < 2; sort++) {
            NeverSaid x = new NeverSaid();
            x.sheet(0, FLOATS, 24);
            for (int i = 0; i < 24; i++) {
                x.mark(0, i, i % 2 == 0 ? NONE : 7);
            }
            x.sheet(0, sort, 3);
            x.sheet(0, sort, 24);
            x.lay(4, 2, 0);
            for (int i = 0; i < 24; i++) {
                due.is("place " + i, x.item(4, i), 0);
            }
            due.is("no more", x.item(4, 24), INDEX);
        }
    }

    /** "or MISSING (at first)"; "(sort -1: MISSING, n any): n (0)". */
    private static void sheetMissing() {
        for (int n : new int[] {-1, 0, 1, 24, 25, MIN, MAX}) {
            NeverSaid x = new NeverSaid();
            due.is("missing at first", x.mark(0, 0, 0), NOTHING);
            x.sheet(0, SHORTS, 2);
            due.is("there", x.mark(0, 0, 0), 1);
            due.is("sheet(0, -1, " + n + ")", x.sheet(0, -1, n), 0);
            due.is("missing, mark", x.mark(0, 0, 0), NOTHING);
            due.is("missing, pour", x.pour(0), NOTHING);
            due.is("missing, reads", x.reads(0), NOTHING);
            due.is("missing, lay", x.lay(0, 2, 0), NOTHING);
            due.is("missing again", x.sheet(0, -1, n), 0);
            due.is("there again", x.sheet(0, FLOATS, 1), 1);
        }
        NeverSaid x = new NeverSaid();
        x.sheet(0, SHORTS, 0);
        due.is("without places it is not missing", x.pour(0), 0);
    }

    /** "BAD: sheet, sort, n above 24; SIZE."; "SIZE: a number of places is below 0". */
    private static void sheetRefused() {
        refused.each("sheet(sheet, 0, 1)", Busy::hall, (x, v) -> x.sheet(v, 0, 1), BAD, -1, 4, 5, MIN, MAX);
        refused.each("sheet(0, sort, 1)", Busy::hall, (x, v) -> x.sheet(0, v, 1), BAD, -2, 2, 3, MIN, MAX);
        refused.each("sheet(0, 0, n)", Busy::hall, (x, v) -> x.sheet(0, 0, v), BAD, 25, 26, MAX);
        refused.each("sheet(1, 1, n)", Busy::hall, (x, v) -> x.sheet(1, 1, v), BAD, 25, 26, MAX);
        refused.each("sheet(0, 0, n)", Busy::hall, (x, v) -> x.sheet(0, 0, v), SIZE, -1, -2, MIN);
        refused.each("sheet(1, 1, n)", Busy::hall, (x, v) -> x.sheet(1, 1, v), SIZE, -1, -2, MIN);
        refused.each("sheet(3, 0, n), missing", Busy::hall, (x, v) -> x.sheet(3, 0, v), SIZE, -1, MIN);
    }

    /** Of several the one that stands first: BAD, then SIZE. */
    private static void badAheadOfSize() {
        refused.each("sheet(sheet, 0, -1)", Busy::hall, (x, v) -> x.sheet(v, 0, -1), BAD, -1, 4);
        refused.each("sheet(0, sort, -1)", Busy::hall, (x, v) -> x.sheet(0, v, -1), BAD, -2, 2);
        refused.each("sheet(sheet, -1, 0)", Busy::hall, (x, v) -> x.sheet(v, -1, 0), BAD, -1, 4);
    }

    /** "SHEETS 0 .. 3": each a row of its own. */
    private static void fourSheets() {
        NeverSaid x = new NeverSaid();
        for (int s = 0; s < 4; s++) {
            x.sheet(s, s % 2, 1 + s);
            x.mark(s, s, 10 + s);
        }
        for (int s = 0; s < 4; s++) {
            due.is("last place of " + s, at(x, s, s), 10 + s);
            due.is("behind it", at(x, s, s + 1), INDEX);
        }
    }

    /** "A place of a SHEET becomes v ..: 1."; "INDEX: there is no such place". */
    private static void markPlaces() {
        NeverSaid x = new NeverSaid();
        x.sheet(2, SHORTS, 24);
        for (int place = 0; place < 24; place++) {
            due.is("mark " + place, x.mark(2, place, 100 + place), 1);
        }
        x.lay(4, 2, 2);
        for (int place = 0; place < 24; place++) {
            due.is("place " + place, x.item(4, place), 100 + place);
        }
        refused.each("full: mark(0, place, 1)", Busy::full, (y, v) -> y.mark(0, v, 1), INDEX, -1, 24, 25, MIN, MAX);
        refused.each("mark(1, place, 1)", Busy::hall, (y, v) -> y.mark(1, v, 1), INDEX, -1, 5, 24);
        refused.each("mark(2, place, 1), no places", Busy::hall, (y, v) -> y.mark(2, v, 1), INDEX, -1, 0, 1);
    }

    /** "of shorts its lowest 16 bits". */
    private static void markShorts() {
        int[] v = {0, 1, -1, 32767, 32768, 32769, -32768, -32769, 65535, 65536, 65537, MIN, MAX, BAD, NONE - 1,
            NONE + 1};
        int[] is = {0, 1, -1, 32767, -32768, -32767, -32768, 32767, -1, 0, 1, 0, -1, (short) BAD, (short) (NONE - 1),
            (short) (NONE + 1)};
        NeverSaid x = new NeverSaid();
        x.sheet(0, SHORTS, 1);
        for (int i = 0; i < v.length; i++) {
            due.is("mark(0, 0, " + v[i] + ")", x.mark(0, 0, v[i]), 1);
            due.is("it is then", at(x, 0, 0), is[i]);
        }
        refused.is("NONE in shorts", Busy::hall, y -> y.mark(0, 0, NONE), KIND);
    }

    /** "of floats v, -99999 .. 99999"; "BAD: v of floats". */
    private static void markFloats() {
        NeverSaid x = new NeverSaid();
        x.sheet(0, FLOATS, 1);
        for (int v : new int[] {-99999, -99998, -32769, -1, 0, 1, 32768, 65536, 99998, 99999}) {
            due.is("mark(0, 0, " + v + ")", x.mark(0, 0, v), 1);
            due.is("it is then", at(x, 0, 0), v);
        }
        refused.each("mark(1, 0, v)", Busy::hall, (y, v) -> y.mark(1, 0, v), BAD, -100000, 100000, MIN, MAX, BAD,
                NONE - 1, NONE + 1);
        refused.each("mark(1, 2, v), no number", Busy::hall, (y, v) -> y.mark(1, 2, v), BAD, -100000, 100000);
    }

    /** "A place of floats may be NO NUMBER"; "NONE: NO NUMBER". */
    private static void markNoNumber() {
        NeverSaid x = new NeverSaid();
        x.sheet(0, FLOATS, 2);
        due.is("no number", x.mark(0, 1, NONE), 1);
        due.is("it is none", at(x, 0, 1), KIND);
        due.is("the other one is", at(x, 0, 0), 0);
        due.is("again", x.mark(0, 1, NONE), 1);
        due.is("a number", x.mark(0, 1, -99999), 1);
        due.is("it is one", at(x, 0, 1), -99999);
    }

    /** "BAD: sheet; NOTHING; INDEX; KIND ..; BAD: v of floats.", each alone. */
    private static void markRefused() {
        refused.each("mark(sheet, 0, 0)", Busy::hall, (x, v) -> x.mark(v, 0, 0), BAD, -1, 4, MIN, MAX);
        refused.is("mark(3, 0, 0)", Busy::hall, x -> x.mark(3, 0, 0), NOTHING);
        refused.is("mark(0, 4, 0)", Busy::hall, x -> x.mark(0, 4, 0), INDEX);
        refused.is("mark(0, 3, NONE)", Busy::hall, x -> x.mark(0, 3, NONE), KIND);
        refused.is("mark(1, 4, 100000)", Busy::hall, x -> x.mark(1, 4, 100000), BAD);
    }

    /** Of several the one that stands first. */
    private static void markFirstRefusal() {
        refused.each("mark(sheet, -1, NONE)", Busy::hall, (x, v) -> x.mark(v, -1, NONE), BAD, -1, 4);
        refused.each("missing: mark(3, place, 100000)", Busy::hall, (x, v) -> x.mark(3, v, 100000), NOTHING, -1, 0, 24);
        refused.each("missing: mark(3, place, NONE)", Busy::hall, (x, v) -> x.mark(3, v, NONE), NOTHING, -1, 0, 24);
        refused.each("shorts: mark(0, place, NONE)", Busy::hall, (x, v) -> x.mark(0, v, NONE), INDEX, -1, 4);
        refused.each("floats: mark(1, place, 100000)", Busy::hall, (x, v) -> x.mark(1, v, 100000), INDEX, -1, 5);
    }

    /** "(each held within 0 .. 100 ..)". */
    private static void pourHeldWithin() {
        int[] places = {-32768, -1, 0, 1, 99, 100, 101, 32767};
        int[] bold = {0, 0, 0, 1, 99, 100, 100, 100};
        for (int sort = 0; sort < 2; sort++) {
            NeverSaid x = Busy.speakers(8);
            x.sheet(0, sort, 8);
            for (int i = 0; i < 8; i++) {
                x.mark(0, i, places[i]);
            }
            due.is("pour of sort " + sort, x.pour(0), 8);
            for (int i = 0; i < 8; i++) {
                due.is("bold by " + places[i], x.told(i, 1), bold[i]);
            }
        }
        NeverSaid x = Busy.speakers(2);
        x.sheet(0, FLOATS, 2);
        x.mark(0, 0, -99999);
        x.mark(0, 1, 99999);
        due.is("the least and the greatest", x.pour(0), 2);
        due.is("bold by the least", x.told(0, 1), 0);
        due.is("bold by the greatest", x.told(1, 1), 100);
    }

    /** "how many are otherwise then": none, one, all; one that is held to what it was is not. */
    private static void pourHowManyAreOtherwise() {
        NeverSaid x = Busy.speakers(12);
        x.sheet(0, SHORTS, 12);
        for (int i = 0; i < 12; i++) {
            x.mark(0, i, 50);
        }
        due.is("none", x.pour(0), 0);
        x.mark(0, 11, 51);
        due.is("one", x.pour(0), 1);
        due.is("none again", x.pour(0), 0);
        for (int i = 0; i < 12; i++) {
            x.mark(0, i, i % 2 == 0 ? -5 : 500);
        }
        due.is("all", x.pour(0), 12);
        for (int i = 0; i < 12; i++) {
            x.mark(0, i, i % 2 == 0 ? -6 : 501);
        }
        due.is("all are held to what they were", x.pour(0), 0);
        due.is("the sheet is as it was", at(x, 0, 11), 501);
    }

    /** "NO NUMBER .. : it stays". */
    private static void pourNoNumberStays() {
        NeverSaid x = Busy.speakers(3);
        x.bolder(0, 0);
        x.bolder(2, 100);
        x.sheet(0, FLOATS, 3);
        for (int i = 0; i < 3; i++) {
            x.mark(0, i, NONE);
        }
        due.is("none is otherwise", x.pour(0), 0);
        due.is("bold of 0", x.told(0, 1), 0);
        due.is("bold of 1", x.told(1, 1), 50);
        due.is("bold of 2", x.told(2, 1), 100);
        x.mark(0, 2, 7);
        due.is("behind no number", x.pour(0), 1);
        due.is("bold of 2 then", x.told(2, 1), 7);
    }

    /** "and beyond the SHEET: it stays"; places beyond the PEOPLE are nobody's. */
    private static void pourBeyond() {
        for (int n : new int[] {0, 1, 2, 3, 4, 24}) {
            NeverSaid x = Busy.speakers(3);
            x.sheet(0, SHORTS, n);
            due.is("pour of " + n, x.pour(0), Math.min(n, 3));
            for (int p = 0; p < 3; p++) {
                due.is("bold of " + p + " by " + n, x.told(p, 1), p < n ? 0 : 50);
            }
            due.is("nobody came", x.count(0), 3);
            x.person(0, 50);
            due.is("who comes later is as told", x.told(3, 1), 50);
        }
        for (int many : new int[] {0, 1, 11, 12}) {
            NeverSaid x = Busy.speakers(many);
            x.sheet(0, SHORTS, 24);
            for (int i = 0; i < 24; i++) {
                x.mark(0, i, 7);
            }
            due.is("24 places for " + many, x.pour(0), many);
            due.is("as many are there", x.count(0), many);
            due.is("again", x.pour(0), 0);
        }
    }

    /** "pour .. BAD; NOTHING." */
    private static void pourRefused() {
        refused.each("pour(sheet)", Busy::hall, (x, v) -> x.pour(v), BAD, -1, 4, MIN, MAX);
        refused.is("pour of a missing one", Busy::hall, x -> x.pour(3), NOTHING);
        refused.is("pour of one without places", Busy::hall, x -> x.pour(2), 0);
    }

    /** "The first place .. at which a SHEET is not how many are LEFT on that DEED": eight of them. */
    private static void readsEachDeed() {
        for (int sort = 0; sort < 2; sort++) {
            NeverSaid x = Busy.speakers(12);
            x.stop(0);
            for (int d = 0; d < 8; d++) {
                x.deed(1, 0, 0);
                for (int p = 0; p < d; p++) {
                    x.say(0, d, p);
                }
            }
            x.sheet(0, sort, 8);
            for (int d = 0; d < 8; d++) {
                due.is("up to " + d, x.reads(0), d);
                x.mark(0, d, 11 - d);
                due.is("one too few at " + d, x.reads(0), d);
                x.mark(0, d, 13 - d);
                due.is("one too many at " + d, x.reads(0), d);
                x.mark(0, d, 12 - d);
            }
            due.is("there is none", x.reads(0), NONE);
            x.mark(0, 3, 0);
            x.mark(0, 5, 0);
            due.is("the first of two", x.reads(0), 3);
        }
        NeverSaid y = Busy.speakers(1);
        y.stop(0);
        y.deed(1, 0, 0);
        y.say(0, 0, 0);
        y.sheet(0, SHORTS, 1);
        due.is("0 are left", y.reads(0), NONE);
    }

    /** "(of numbers alone)": NO NUMBER is passed over, on a DEED and beyond. */
    private static void readsNumbersAlone() {
        NeverSaid x = Busy.speakers(2);
        x.deed(1, 0, 0);
        x.sheet(0, FLOATS, 24);
        for (int i = 0; i < 24; i++) {
            due.is("from " + i + " on", x.reads(0), i);
            x.mark(0, i, NONE);
        }
        due.is("there is none", x.reads(0), NONE);
        x.mark(0, 23, 0);
        due.is("the last one", x.reads(0), 23);
    }

    /** "(of places that are no DEED all numbers are not)": 0, too, and how many would be LEFT. */
    private static void readsNoDeed() {
        NeverSaid x = Busy.speakers(2);
        x.sheet(0, FLOATS, 1);
        for (int v : new int[] {-1, 0, 1, 2, 3}) {
            x.mark(0, 0, v);
            due.is("no deed, " + v, x.reads(0), 0);
        }
        x.mark(0, 0, NONE);
        due.is("no deed, no number", x.reads(0), NONE);
        for (int d = 0; d < 8; d++) {
            x.deed(1, 0, 0);
        }
        x.sheet(1, SHORTS, 9);
        for (int i = 0; i < 9; i++) {
            x.mark(1, i, 2);
        }
        due.is("a ninth", x.reads(1), 8);
        x.sheet(2, SHORTS, 0);
        due.is("no places", x.reads(2), NONE);
    }

    /** "reads .. BAD; NOTHING; NONE: there is none." */
    private static void readsRefused() {
        refused.each("reads(sheet)", Busy::hall, (x, v) -> x.reads(v), BAD, -1, 4, MIN, MAX);
        refused.is("reads of a missing one", Busy::hall, x -> x.reads(3), NOTHING);
        refused.is("reads of one without places", Busy::hall, x -> x.reads(2), NONE);
    }

    /** Shorts with 5 places, and with 3, with other numbers in each place; then floats, then one that is missing. */
    private static NeverSaid rows() {
        NeverSaid x = new NeverSaid();
        x.sheet(0, SHORTS, 5);
        x.sheet(1, SHORTS, 3);
        x.sheet(2, FLOATS, 5);
        for (int i = 0; i < 5; i++) {
            x.mark(0, i, 10 + i);
            x.mark(1, i, 20 + i);
        }
        return x;
    }

    private static void rowIs(String what, NeverSaid x, int sheet, int... want) {
        x.lay(4, 2, sheet);
        for (int i = 0; i < want.length; i++) {
            due.is(what + ", place " + i, x.item(4, i), want[i]);
        }
        due.is(what + ", behind", x.item(4, want.length), INDEX);
    }

    /** "So many places of a SHEET come to another one ..: many. .. INDEX": every stretch, the least beyond it, too. */
    private static void copyBounds() {
        for (int place = -1; place <= 6; place++) {
            for (int at = -1; at <= 4; at++) {
                for (int many = -1; many <= 6; many++) {
                    boolean good = place >= 0 && at >= 0 && many >= 0 && place + many <= 5 && at + many <= 3;
                    NeverSaid x = rows();
                    int[] want = {20, 21, 22};
                    for (int i = 0; good && i < many; i++) {
                        want[at + i] = 10 + place + i;
                    }
                    String call = "copy(0, " + place + ", 1, " + at + ", " + many + ")";
                    due.is(call, x.copy(0, place, 1, at, many), good ? many : INDEX);
                    rowIs(call, x, 1, want);
                    rowIs(call, x, 0, 10, 11, 12, 13, 14);
                }
            }
        }
        int[][] far = {{MAX, 0, 1}, {0, MAX, 1}, {0, 0, MAX}, {1, 1, MAX}, {MAX, MAX, MAX}, {MIN, 0, 1}, {0, MIN, 1},
            {0, 0, MIN}, {MIN, MIN, MIN}, {MAX, 0, 0}, {0, MAX, 0}};
        for (int[] f : far) {
            refused.is("far away", ROWS, x -> x.copy(0, f[0], 1, f[1], f[2]), INDEX);
        }
    }

    /** "(many 0: not at the place behind the last one)": there it is no INDEX; further on, and below 0, it is. */
    private static void copyOfNone() {
        refused.is("from the place behind the last one", ROWS, x -> x.copy(0, 5, 1, 0, 0), 0);
        refused.is("to the place behind the last one", ROWS, x -> x.copy(0, 0, 1, 3, 0), 0);
        refused.is("both", ROWS, x -> x.copy(0, 5, 1, 3, 0), 0);
        refused.is("from further on", ROWS, x -> x.copy(0, 6, 1, 0, 0), INDEX);
        refused.is("to further on", ROWS, x -> x.copy(0, 0, 1, 4, 0), INDEX);
        refused.is("from below 0", ROWS, x -> x.copy(0, -1, 1, 0, 0), INDEX);
        refused.is("to below 0", ROWS, x -> x.copy(0, 0, 1, -1, 0), INDEX);
        refused.is("one from behind the last one", ROWS, x -> x.copy(0, 5, 1, 0, 1), INDEX);
        refused.is("one to behind the last one", ROWS, x -> x.copy(0, 0, 1, 3, 1), INDEX);
        NeverSaid x = new NeverSaid();
        x.sheet(0, FLOATS, 0);
        due.is("within a row of none", x.copy(0, 0, 0, 0, 0), 0);
        due.is("one within a row of none", x.copy(0, 0, 0, 0, 1), INDEX);
        x.sheet(1, FLOATS, 24);
        due.is("behind the last of 24", x.copy(1, 24, 0, 0, 0), 0);
        due.is("further than 24", x.copy(1, 25, 0, 0, 0), INDEX);
    }

    /** "INDEX (many below 0, too ..)", wherever it would be. */
    private static void copyManyBelowZero() {
        for (int many : new int[] {-1, -2, -5, MIN}) {
            refused.is("many " + many, ROWS, x -> x.copy(0, 2, 1, 2, many), INDEX);
            refused.is("many " + many + " from the end", ROWS, x -> x.copy(0, 5, 1, 3, many), INDEX);
        }
    }

    /** "(or the same), as they were": onwards, back, and where they are; NO NUMBER, too. */
    private static void copyAsTheyWere() {
        for (int place = 0; place < 5; place++) {
            for (int at = 0; at < 5; at++) {
                int many = Math.min(5 - place, 5 - at);
                NeverSaid x = rows();
                int[] want = {10, 11, 12, 13, 14};
                for (int i = 0; i < many; i++) {
                    want[at + i] = 10 + place + i;
                }
                due.is("within one", x.copy(0, place, 0, at, many), many);
                rowIs("from " + place + " to " + at, x, 0, want);
            }
        }
        NeverSaid x = new NeverSaid();
        x.sheet(0, FLOATS, 3);
        x.sheet(1, FLOATS, 2);
        x.mark(0, 1, NONE);
        x.mark(0, 2, -99999);
        x.mark(1, 0, 99999);
        due.is("floats", x.copy(0, 1, 1, 0, 2), 2);
        rowIs("floats", x, 1, KIND, -99999);
        due.is("a number over no number", x.copy(0, 2, 0, 1, 1), 1);
        rowIs("floats", x, 0, 0, -99999, -99999);
    }

    /** All 24 places at once, and one more. */
    private static void copyOfAll() {
        NeverSaid x = new NeverSaid();
        x.sheet(0, SHORTS, 24);
        x.sheet(3, SHORTS, 24);
        for (int i = 0; i < 24; i++) {
            x.mark(0, i, 1000 + i);
        }
        due.is("25", x.copy(0, 0, 3, 0, 25), INDEX);
        due.is("none came", at(x, 3, 0), 0);
        due.is("24", x.copy(0, 0, 3, 0, 24), 24);
        x.lay(4, 2, 3);
        for (int i = 0; i < 24; i++) {
            due.is("place " + i, x.item(4, i), 1000 + i);
        }
    }

    /** "BAD; NOTHING; KIND: they are not of one sort; INDEX", each alone; "KIND" either way. */
    private static void copyRefused() {
        refused.each("copy(from, 0, 0, 0, 1)", ROWS, (x, v) -> x.copy(v, 0, 0, 0, 1), BAD, -1, 4, MIN, MAX);
        refused.each("copy(0, 0, to, 0, 1)", ROWS, (x, v) -> x.copy(0, 0, v, 0, 1), BAD, -1, 4, MIN, MAX);
        refused.is("from a missing one", ROWS, x -> x.copy(3, 0, 0, 0, 0), NOTHING);
        refused.is("to a missing one", ROWS, x -> x.copy(0, 0, 3, 0, 0), NOTHING);
        refused.is("within a missing one", ROWS, x -> x.copy(3, 0, 3, 0, 0), NOTHING);
        refused.is("shorts to floats", ROWS, x -> x.copy(0, 0, 2, 0, 1), KIND);
        refused.is("floats to shorts", ROWS, x -> x.copy(2, 0, 0, 0, 1), KIND);
        refused.is("none of shorts to floats", ROWS, x -> x.copy(0, 0, 2, 0, 0), KIND);
    }

    /** Of several the one that stands first. */
    private static void copyFirstRefusal() {
        refused.each("copy(from, -1, 3, -1, -1)", ROWS, (x, v) -> x.copy(v, -1, 3, -1, -1), BAD, -1, 4);
        refused.each("copy(3, -1, to, -1, -1)", ROWS, (x, v) -> x.copy(3, -1, v, -1, -1), BAD, -1, 4);
        refused.each("copy(0, 0, 3, 0, many)", ROWS, (x, v) -> x.copy(0, 0, 3, 0, v), NOTHING, -1, 9);
        refused.each("copy(3, 0, 0, 0, many)", ROWS, (x, v) -> x.copy(3, 0, 0, 0, v), NOTHING, -1, 9);
        refused.each("copy(0, 0, 2, 0, many)", ROWS, (x, v) -> x.copy(0, 0, 2, 0, v), KIND, -1, 9);
        refused.each("copy(0, place, 2, 0, 1)", ROWS, (x, v) -> x.copy(0, v, 2, 0, 1), KIND, -1, 9);
    }

    /** "A SLOT holds: thing 0 nothing .., 3 the number k: what it held (0 .. 3)": each thing behind each. */
    private static void layThings() {
        for (int slot = 0; slot < 5; slot++) {
            NeverSaid x = Busy.speakers(1);
            x.sheet(0, SHORTS, 1);
            int held = 0;
            for (int was = 0; was < 4; was++) {
                for (int then = 0; then < 4; then++) {
                    due.is("to " + was, x.lay(slot, was, 0), held);
                    due.is("from " + was + " to " + then, x.lay(slot, then, 0), was);
                    due.is("ask", x.ask(slot, 0), then == 1 ? 50 : then == 0 ? NOTHING : KIND);
                    due.is("item", x.item(slot, 0), then == 2 ? 0 : then == 0 ? NOTHING : KIND);
                    due.is("rest", x.rest(slot, 9), then == 3 ? 0 : then == 0 ? NOTHING : KIND);
                    held = then;
                }
            }
            due.is("another one holds nothing", x.rest((slot + 1) % 5, 1), NOTHING);
        }
    }

    /** "BAD: slot, thing, k": the least and the greatest of each, and those beside. */
    private static void layBounds() {
        for (int k : new int[] {-1, 0, MIN, MAX}) {
            NeverSaid x = new NeverSaid();
            due.is("nothing, k any", x.lay(0, 0, k), 0);
            due.is("nothing then", x.rest(0, 1), NOTHING);
            due.is("any number", x.lay(4, 3, k), 0);
            due.is("it is " + k, x.rest(4, MAX), k % MAX);
        }
        NeverSaid x = Busy.full();
        due.is("the first one", x.lay(0, 1, 0), 2);
        due.is("the last one", x.lay(0, 1, 11), 1);
        due.is("the first sheet", x.lay(0, 2, 0), 1);
        due.is("the last sheet", x.lay(0, 2, 3), 2);
        for (int thing = 0; thing < 4; thing++) {
            int t = thing;
            refused.each("lay(slot, " + t + ", 0)", Busy::hall, (y, v) -> y.lay(v, t, 0), BAD, -1, 5, MIN, MAX);
        }
        refused.each("lay(0, thing, 0)", Busy::hall, (y, v) -> y.lay(0, v, 0), BAD, -1, 4, MIN, MAX);
        refused.each("lay(0, 1, k)", Busy::hall, (y, v) -> y.lay(0, 1, v), BAD, -1, 7, 12, MIN, MAX);
        refused.each("lay(0, 2, k)", Busy::hall, (y, v) -> y.lay(0, 2, v), BAD, -1, 4, MIN, MAX);
        refused.each("full: lay(0, 1, k)", Busy::full, (y, v) -> y.lay(0, 1, v), BAD, -1, 12);
    }

    /** "NOTHING: that SHEET is MISSING.": BAD stands ahead of it. */
    private static void layMissing() {
        refused.each("lay(slot, 2, 3)", Busy::hall, (x, v) -> x.lay(v, 2, 3), NOTHING, 0, 1, 2, 3, 4);
        refused.each("lay(slot, 2, 3)", Busy::hall, (x, v) -> x.lay(v, 2, 3), BAD, -1, 5);
        NeverSaid x = new NeverSaid();
        x.sheet(3, FLOATS, 0);
        due.is("one without places", x.lay(0, 2, 3), 0);
        due.is("it is held", x.item(0, 0), INDEX);
    }

    /** "one of PEOPLE (as it is then, for good), a SHEET (a row of its own, as it was then), or a number". */
    private static void layForGood() {
        NeverSaid x = new NeverSaid();
        x.keep();
        x.person(5, 100);
        x.sheet(0, FLOATS, 2);
        x.mark(0, 1, 8);
        x.lay(0, 1, 0);
        x.lay(1, 2, 0);
        x.lay(2, 3, 77);
        x.turns(0, 0);
        x.bolder(0, 1);
        due.is("the one as it was", x.ask(0, 5), 1000);
        x.lay(3, 1, 0);
        due.is("the one as it is now", x.ask(3, 0), 1);
        x.mark(0, 1, 9);
        due.is("the row as it was", x.item(1, 1), 8);
        x.sheet(0, SHORTS, 1);
        due.is("the row with both places", x.item(1, 1), 8);
        x.sheet(0, -1, 0);
        due.is("the row, though it is missing", x.item(1, 1), 8);
        x.back();
        due.is("the one, though nobody is there", x.ask(0, 5), 1000);
        due.is("the number", x.rest(2, 100), 77);
        x.sheet(1, FLOATS, 2);
        x.lay(1, 2, 1);
        due.is("another row", x.item(1, 1), 0);
    }

    /** "WORTH (by its own KIND) of the one in a SLOT, taken for one of a KIND (0 .. 5)". */
    private static void askKinds() {
        int[] worth = {30, 35, 70, 70, 63, 300};
        for (int kind = 0; kind < 6; kind++) {
            NeverSaid x = new NeverSaid();
            x.person(kind, 30);
            for (int slot = 0; slot < 5; slot++) {
                x.lay(slot, 1, 0);
                for (int wanted = 0; wanted < 6; wanted++) {
                    boolean is = (OF[kind] >> wanted & 1) == 1;
                    due.is("kind " + kind + " for " + wanted, x.ask(slot, wanted), is ? worth[kind] : KIND);
                }
            }
        }
    }

    /** "BAD; NOTHING; KIND: it is none of PEOPLE, or not of that KIND": of several the one that stands first. */
    private static void askRefused() {
        refused.each("ask(slot, 0)", Busy::hall, (x, v) -> x.ask(v, 0), BAD, -1, 5, MIN, MAX);
        for (int slot = 0; slot < 5; slot++) {
            int s = slot;
            refused.each("ask(" + s + ", kind)", Busy::hall, (x, v) -> x.ask(s, v), BAD, -1, 6, MIN, MAX);
        }
        refused.each("ask(4, kind), nothing", Busy::hall, (x, v) -> x.ask(4, v), NOTHING, 0, 5);
        refused.each("ask(slot, 0), others", Busy::hall, (x, v) -> x.ask(v, 0), KIND, 1, 2, 3);
        refused.each("ask(0, kind), not of it", Busy::hall, (x, v) -> x.ask(0, v), KIND, 1, 3, 5);
        refused.each("ask(0, kind)", Busy::hall, (x, v) -> x.ask(0, v), 23, 0, 2, 4);
    }

    /** "A place of the SHEET in a SLOT .. INDEX": 0, 1 and 24 places. */
    private static void itemPlaces() {
        for (int n : new int[] {0, 1, 24}) {
            NeverSaid x = new NeverSaid();
            x.sheet(0, SHORTS, n);
            x.lay(0, 2, 0);
            due.is("ahead of the first of " + n, x.item(0, -1), INDEX);
            due.is("the first of " + n, x.item(0, 0), n > 0 ? 0 : INDEX);
            due.is("the last of " + n, x.item(0, n - 1), n > 0 ? 0 : INDEX);
            due.is("behind the last of " + n, x.item(0, n), INDEX);
        }
        NeverSaid x = new NeverSaid();
        x.sheet(0, SHORTS, 24);
        x.mark(0, 23, 9);
        x.lay(0, 2, 0);
        x.sheet(0, SHORTS, 2);
        x.lay(0, 2, 0);
        due.is("a shorter one in the same slot", x.item(0, 2), INDEX);
    }

    /** "BAD: slot; NOTHING; KIND: it is no SHEET; INDEX; KIND: NO NUMBER.": the one that stands first. */
    private static void itemRefused() {
        refused.each("item(slot, 0)", Busy::hall, (x, v) -> x.item(v, 0), BAD, -1, 5, MIN, MAX);
        refused.each("item(slot, -1)", Busy::hall, (x, v) -> x.item(v, -1), BAD, -1, 5);
        refused.each("item(4, place), nothing", Busy::hall, (x, v) -> x.item(4, v), NOTHING, -1, 0, 24, MIN, MAX);
        refused.each("item(0, place), one", Busy::hall, (x, v) -> x.item(0, v), KIND, -1, 0, 24, MIN, MAX);
        refused.each("item(2, place), a number", Busy::hall, (x, v) -> x.item(2, v), KIND, -1, 0, 24, MIN, MAX);
        refused.each("item(3, place)", Busy::hall, (x, v) -> x.item(3, v), INDEX, -1, 5, 24, MIN, MAX);
        refused.is("item(3, 2), no number", Busy::hall, x -> x.item(3, 2), KIND);
        refused.is("item(3, 3)", Busy::hall, x -> x.item(3, 3), 99996);
    }

    /** "The rest of the number in a SLOT by n"; "/ cuts towards 0": the rest has the number's sign. */
    private static void restCutsTowardsZero() {
        int[][] cases = {{17, 5, 2}, {-17, 5, -2}, {17, -5, 2}, {-17, -5, -2}, {15, 5, 0}, {-15, 5, 0}, {4, 5, 4},
            {5, 5, 0}, {6, 5, 1}, {0, 5, 0}, {7, 1, 0}, {7, -1, 0}, {MIN, -1, 0}, {MIN, 1, 0}, {MIN, MIN, 0},
            {MIN, MAX, -1}, {MAX, MIN, MAX}, {MAX, MAX, 0}, {MIN, 10, -8}, {MAX, 10, 7}};
        for (int[] c : cases) {
            NeverSaid x = new NeverSaid();
            x.lay(0, 3, c[0]);
            due.is("the rest of " + c[0] + " by " + c[1], x.rest(0, c[1]), c[2]);
        }
    }

    /** "BAD: slot; NOTHING; KIND: it is no number; NO: n is 0.": the one that stands first. */
    private static void restRefused() {
        refused.each("rest(slot, 1)", Busy::hall, (x, v) -> x.rest(v, 1), BAD, -1, 5, MIN, MAX);
        refused.each("rest(slot, 0)", Busy::hall, (x, v) -> x.rest(v, 0), BAD, -1, 5);
        refused.each("rest(4, n), nothing", Busy::hall, (x, v) -> x.rest(4, v), NOTHING, 0, 1, -1);
        refused.each("rest(0, n), one", Busy::hall, (x, v) -> x.rest(0, v), KIND, 0, 1, -1);
        refused.each("rest(1, n), a sheet", Busy::hall, (x, v) -> x.rest(1, v), KIND, 0, 1, -1);
        refused.is("rest(2, 0)", Busy::hall, x -> x.rest(2, 0), NO);
        refused.each("rest(2, n)", Busy::hall, (x, v) -> x.rest(2, v), 0, 1, -1);
    }
}
