/** Boundary cases of part 5 and of promises 28 to 41. */
public final class EdgesSheetTest {
    private static final int BAD = Edges.BAD, NO = Edges.NO, FULL = Edges.FULL, NONE = Edges.NONE, NOTHING = Edges.NOTHING,
            KIND = Edges.KIND, INDEX = Edges.INDEX, SIZE = Edges.SIZE;
    private static final int HALF = 0, SLOW = 1, TELLER = 2, STILL = 3, SHOUTER = 4, FOE = 5;
    private static final int MIN = Edges.MIN, MAX = Edges.MAX;

    public static void main(String[] args) {
        rows();
        slots();
        sheet();
        mark();
        pour();
        reads();
        copy();
        copyOverItself();
        lay();
        ask();
        item();
        rest();
        tell();
        triesTold();
        check();
        images();
        keepAndBack();
        count();
        Edges.end();
    }

    private static int[] upTo(int n) {
        int[] v = new int[n];
        for (int i = 0; i < n; i++) v[i] = i + 1;
        return v;
    }

    private static void rows() {
        Edges.sentence("SHEETS 0 .. 3 are rows of shorts (sort 0) or floats (1; whole numbers), with 0 to 24 places, or MISSING (at first).");
        MeanSafe x = new MeanSafe();
        for (int s = 0; s < 4; s++) Edges.due(NOTHING, x.pour(s), x.mark(s, 0, 0), x.reads(s), x.left(s, 0), x.lay(0, 2, s));
        for (int s = 0; s < 4; s++) {
            Edges.sheet(x, s, s % 2, upTo(24));
            Edges.sheetIs(x, s, upTo(24));
        }
        for (int s = 0; s < 4; s++) {
            Edges.sheet(x, s, 1 - s % 2);
            Edges.sheetIs(x, s);
            if (s < 3) Edges.sheetIs(x, s + 1, upTo(24));
        }

        Edges.sentence("A place of floats may be NO NUMBER.");
        x = new MeanSafe();
        Edges.sheet(x, 0, 1, NONE, 0, NONE);
        Edges.sheetIs(x, 0, KIND, 0, KIND);
        x.mark(0, 0, -99999);
        Edges.sheetIs(x, 0, -99999, 0, KIND);
    }

    private static void slots() {
        Edges.sentence("SLOTS 0 .. 4 each hold nothing (at first), one of PEOPLE (as it is then, for good),"
            + " a SHEET (a row of its own, as it was then), or a number.");
        MeanSafe x = new MeanSafe();
        for (int s = 0; s < 5; s++) Edges.due(NOTHING, x.ask(s, 0), x.item(s, 0), x.rest(s, 1));
        x.person(TELLER, 50, 3);
        x.set(0, 3, 20);
        x.keep();
        x.lay(0, 1, 0);
        Edges.sheet(x, 0, 0, 7, 8);
        x.lay(1, 2, 0);
        x.lay(2, 2, 0);
        x.set(0, 3, -20);
        x.lay(3, 1, 0);
        x.turns(0, FOE);
        Edges.due(30, x.ask(0, HALF), x.ask(0, TELLER));
        Edges.due(70, x.ask(3, TELLER));
        x.back();
        Edges.due(70, x.ask(3, TELLER));
        x.mark(0, 0, 9);
        Edges.due(7, x.item(1, 0));
        x.lay(2, 2, 0);
        Edges.due(9, x.item(2, 0));
        x.sheet(0, 1, 0);
        Edges.due(7, x.item(1, 0));
        Edges.due(8, x.item(1, 1), x.item(2, 1));
        x.sheet(0, -1, 0);
        Edges.due(7, x.item(1, 0));
        Edges.due(INDEX, x.item(1, 2));
        Edges.due(NOTHING, x.item(4, 0));
    }

    private static void sheet() {
        Edges.sentence("A SHEET becomes a row of n places of a sort, all 0 (sort -1: MISSING, n any): n (0). BAD: sheet, sort, n above 24; SIZE.");
        Edges.range(0, 3, (x, v) -> x.sheet(v, 0, 1));
        Edges.range(-1, 1, (x, v) -> x.sheet(0, v, 1));
        for (int sort = 0; sort < 2; sort++) {
            int s = sort;
            for (int n : new int[] {25, 96, MAX}) Edges.refused(BAD, x -> x.sheet(0, s, n));
            for (int n : new int[] {-1, -25, MIN}) {
                Edges.refused(SIZE, x -> x.sheet(0, s, n));
                Edges.refused(SIZE, x -> x.sheet(2, s, n));
                Edges.refused(BAD, x -> x.sheet(4, s, n));
                Edges.refused(BAD, x -> x.sheet(0, 2, n));
                Edges.refused(BAD, x -> x.sheet(0, -2, n));
            }
            for (int n : new int[] {0, 1, 24}) {
                MeanSafe x = Edges.rich();
                for (int sheet = 0; sheet < 4; sheet++) {
                    Edges.due(n, x.sheet(sheet, s, n));
                    Edges.sheetIs(x, sheet, new int[n]);
                }
            }
        }
        for (int n : new int[] {MIN, -1, 0, 1, 24, 25, MAX}) {
            MeanSafe x = Edges.rich();
            Edges.due(0, x.sheet(1, -1, n), x.sheet(2, -1, n));
            Edges.due(NOTHING, x.pour(1), x.pour(2));
        }
        // a row made anew is all 0, however it was before
        MeanSafe x = new MeanSafe();
        for (int n : new int[] {24, 3, 24}) {
            x.sheet(0, 1, n);
            Edges.sheetIs(x, 0, new int[n]);
            for (int i = 0; i < n; i++) x.mark(0, i, i % 2 == 0 ? NONE : 5);
        }
        x.sheet(0, -1, 0);
        x.sheet(0, 0, 24);
        Edges.sheetIs(x, 0, new int[24]);
    }

    private static void mark() {
        Edges.sentence("(of shorts its lowest 16 bits; of floats v, -99999 .. 99999; NONE: NO NUMBER): 1.");
        MeanSafe x = new MeanSafe();
        int[] wide = {0, 1, -1, 32767, 32768, 32769, 65535, 65536, 65537, -32768, -32769, -65536, 99999, 100000, MIN, MAX, BAD, -1000000004};
        for (int v : wide) {
            x.sheet(0, 0, 1);
            Edges.due(1, x.mark(0, 0, v));
            int low = Math.floorMod(v, 65536);
            Edges.sheetIs(x, 0, low > 32767 ? low - 65536 : low);
        }
        for (int v : new int[] {0, 32767, 32768, 65536, -32769, 99998, 99999, -99998, -99999}) {
            x.sheet(0, 1, 1);
            Edges.due(1, x.mark(0, 0, v));
            Edges.sheetIs(x, 0, v);
        }
        Edges.due(1, x.mark(0, 0, NONE));
        Edges.sheetIs(x, 0, KIND);

        Edges.sentence("BAD: sheet; NOTHING; INDEX; KIND: NONE in a row of shorts; BAD: v of floats.");
        Edges.range(0, 3, (o, v) -> o.mark(v, 0, 0));
        for (int sheet : new int[] {-1, 4, MIN, MAX}) Edges.refused(BAD, o -> o.mark(sheet, -1, NONE));
        for (int place : new int[] {-1, 0, 24, MAX}) Edges.refused(NOTHING, o -> o.mark(2, place, NONE));
        for (int place : new int[] {-1, 3, 24, MIN, MAX}) {
            Edges.refused(INDEX, o -> o.mark(0, place, 1));
            Edges.refused(INDEX, o -> o.mark(0, place, NONE));
        }
        for (int place : new int[] {-1, 4, 23, MIN, MAX}) {
            Edges.refused(INDEX, o -> o.mark(1, place, 1));
            Edges.refused(INDEX, o -> o.mark(1, place, 100000));
        }
        Edges.refused(INDEX, o -> o.mark(3, 0, 1));
        Edges.refused(KIND, o -> o.mark(0, 0, NONE));
        Edges.refused(KIND, o -> o.mark(0, 2, NONE));
        for (int v : new int[] {100000, -100000, MIN, MAX, NONE - 1, NONE + 1}) {
            Edges.refused(BAD, o -> o.mark(1, 0, v));
            Edges.refused(BAD, o -> o.mark(1, 3, v));
        }
        // the first and the last place alone
        x = new MeanSafe();
        for (int sort = 0; sort < 2; sort++) {
            x.sheet(0, sort, 3);
            x.mark(0, 0, 4);
            x.mark(0, 2, 6);
            Edges.sheetIs(x, 0, 4, 0, 6);
        }
    }

    private static void pour() {
        Edges.sentence("(each held within 0 .. 99; NO NUMBER, and beyond the SHEET: they stay): how many are otherwise then.");
        int[] places = {-99999, -1, 0, 1, 98, 99, 100, 99999};
        int[] dials = {0, 0, 0, 1, 98, 99, 99, 99};
        MeanSafe x = Edges.people(HALF, 50, 51, 52, 53, 54, 55, 56, 57);
        Edges.sheet(x, 0, 1, places);
        Edges.due(8, x.pour(0));
        Edges.row((o, i) -> o.told(i, 1), x, dials);
        Edges.due(0, x.pour(0));
        Edges.sheet(x, 1, 0, -32768, 32767, 0, -1, 100);
        Edges.due(3, x.pour(1));
        Edges.row((o, i) -> o.told(i, 1), x, 0, 99, 0, 0, 99, 99, 99, 99);
        Edges.sheet(x, 2, 1, NONE, 5, NONE);
        Edges.due(1, x.pour(2));
        Edges.row((o, i) -> o.told(i, 1), x, 0, 5, 0, 0, 99, 99, 99, 99);
        Edges.sheet(x, 2, 1, NONE, NONE);
        Edges.due(0, x.pour(2));
        Edges.sheet(x, 2, 1);
        Edges.due(0, x.pour(2));
        // more places than people, and nobody
        x = Edges.people(STILL, 50);
        Edges.sheet(x, 0, 0, upTo(24));
        Edges.due(1, x.pour(0), x.told(0, 1));
        Edges.due(1, x.count(0));
        x = new MeanSafe();
        x.sheet(3, 1, 24);
        Edges.due(0, x.pour(3), x.count(0));

        Edges.sentence("how many are otherwise then. BAD; NOTHING.");
        Edges.range(0, 3, (o, v) -> o.pour(v));
        Edges.refused(NOTHING, o -> o.pour(2));
        // DIALS alone: beliefs and the sheet stay
        x = Edges.rich();
        int low = x.told(0, 4), high = x.told(0, 5), weight = x.told(0, 2);
        x.pour(0);
        Edges.due(low, x.told(0, 4));
        Edges.due(high, x.told(0, 5));
        Edges.due(weight, x.told(0, 2));
        Edges.sheetIs(x, 0, 5, -6, 7);
    }

    private static void reads() {
        Edges.sentence("The first place k (of numbers alone) at which a SHEET is not NEEDS of NUMBER k (13: never).");
        MeanSafe x = Edges.one(HALF, 49, 0);
        int[] needs = new int[24];
        for (int k = 0; k < 24; k++) needs[k] = x.needs(k);
        for (int sort = 0; sort < 2; sort++) {
            for (int k = 0; k < 24; k++) {
                Edges.sheet(x, 0, sort, needs);
                Edges.due(NONE, x.reads(0));
                x.mark(0, 23, 0);
                Edges.due(23, x.reads(0));
                x.mark(0, k, needs[k] + 1);
                Edges.due(k, x.reads(0));
                x.mark(0, k, needs[k] - 1);
                Edges.due(k, x.reads(0));
            }
        }
        Edges.sheet(x, 1, 1, NONE, needs[1], NONE, 0, 0);
        Edges.due(3, x.reads(1));
        Edges.sheet(x, 1, 1, NONE, NONE, NONE);
        Edges.due(NONE, x.reads(1));
        x = Edges.one(STILL, 2, 0);
        Edges.sheet(x, 0, 0, 13, 13, 1, 13);
        Edges.due(NONE, x.reads(0));
        Edges.sheet(x, 0, 0, 13, 12, 1, 13);
        Edges.due(1, x.reads(0));
        Edges.sheet(x, 0, 0, 13, 13, 1, 14);
        Edges.due(3, x.reads(0));
        x.safe(4, 1);
        Edges.due(0, x.reads(0));
        x.sheet(0, 0, 24);
        Edges.due(NONE, x.reads(0));
        x = new MeanSafe();
        Edges.sheet(x, 0, 0, 13, 13, 0);
        Edges.due(2, x.reads(0));

        Edges.sentence("BAD; NOTHING; NONE: there is none.");
        Edges.range(0, 3, (o, v) -> o.reads(v));
        Edges.refused(NOTHING, o -> o.reads(2));
        x.sheet(0, 0, 0);
        Edges.due(NONE, x.reads(0));
    }

    private static void copy() {
        Edges.sentence("many. BAD; NOTHING; KIND: they are not of one sort; INDEX.");
        Edges.range(0, 3, (x, v) -> x.copy(v, 0, 0, 0, 0));
        Edges.range(0, 3, (x, v) -> x.copy(0, 0, v, 0, 0));
        // each stands ahead of the next one
        for (int s : new int[] {-1, 4}) {
            Edges.refused(BAD, x -> x.copy(s, -1, 2, -1, -1));
            Edges.refused(BAD, x -> x.copy(2, -1, s, -1, -1));
        }
        Edges.refused(NOTHING, x -> x.copy(2, -1, 0, -1, 99));
        Edges.refused(NOTHING, x -> x.copy(0, -1, 2, -1, 99));
        Edges.refused(NOTHING, x -> x.copy(2, 0, 2, 0, 0));
        Edges.refused(KIND, x -> x.copy(0, -1, 1, -1, 99));
        Edges.refused(KIND, x -> x.copy(1, 0, 0, 0, 0));
        // SHEET 0 has 3 places, SHEET 1 and SHEET 2 (floats) 4 and 2
        Edges.Calls two = x -> Edges.sheet(x, 2, 1, 70, 80);
        int[][] beyond = {{1, -1, 2, 0, 1}, {1, 0, 2, -1, 1}, {1, 4, 2, 0, 1}, {1, 0, 2, 2, 1}, {1, 3, 2, 0, 2}, {1, 0, 2, 1, 2}, {1, 0, 2, 0, 3},
            {2, 0, 1, 0, 3}, {1, 0, 1, 0, 5}, {1, 1, 1, 0, 4}, {1, 0, 1, 1, 4}, {1, MAX, 2, 0, 1}, {1, 0, 2, MAX, 1}, {1, 0, 2, 0, MAX},
            {1, 1, 2, 1, MAX}, {1, MIN, 2, 0, 1}, {1, 0, 2, MIN, 1}, {1, MAX, 2, MAX, MAX}, {1, 0, 2, 0, -1}, {1, 0, 2, 0, MIN}, {1, 1, 2, 1, -1},
            {1, 5, 2, 0, 0}, {1, 0, 2, 3, 0}, {1, -1, 2, 0, 0}, {1, 0, 2, -1, 0}, {3, 0, 2, 0, 1}, {2, 0, 3, 0, 1}, {3, 1, 3, 0, 0}};
        for (int[] b : beyond) Edges.refused(INDEX, two, x -> x.copy(b[0], b[1], b[2], b[3], b[4]));
        int[][] none = {{1, 0, 2, 0, 0}, {1, 4, 2, 2, 0}, {3, 0, 3, 0, 0}, {3, 0, 1, 4, 0}};
        for (int[] n : none) {
            Edges.due(0, Edges.rich().copy(n[0], n[1], n[0], n[1], n[4]));
            Edges.changesNothing(two, x -> x.copy(n[0], n[1], n[2], n[3], n[4]));
        }

        Edges.sentence("So many places of a SHEET come to another one (or the same), as they were: many.");
        MeanSafe x = Edges.rich();
        two.on(x);
        Edges.due(2, x.copy(1, 2, 2, 0, 2));
        Edges.sheetIs(x, 2, -99999, 1);
        Edges.due(1, x.copy(1, 1, 2, 1, 1));
        Edges.sheetIs(x, 2, -99999, KIND);
        Edges.sheetIs(x, 1, 8, KIND, -99999, 1);
        Edges.sheet(x, 0, 0, upTo(24));
        x.sheet(2, 0, 24);
        Edges.due(24, x.copy(0, 0, 2, 0, 24));
        Edges.sheetIs(x, 2, upTo(24));
        Edges.sheetIs(x, 0, upTo(24));
    }

    private static void copyOverItself() {
        Edges.sentence("(or the same), as they were: many.");
        for (int from = 0; from < 6; from++) {
            for (int at = 0; at < 6; at++) {
                for (int many = 0; many <= 6 - Math.max(from, at); many++) {
                    MeanSafe x = new MeanSafe();
                    int[] v = upTo(6);
                    Edges.sheet(x, 0, 1, v);
                    int[] due = v.clone();
                    for (int i = 0; i < many; i++) due[at + i] = v[from + i];
                    Edges.due(many, x.copy(0, from, 0, at, many));
                    Edges.sheetIs(x, 0, due);
                }
            }
        }
    }

    private static void lay() {
        Edges.sentence("what it held (0 .. 3). BAD: slot, thing, k; NOTHING: that SHEET is MISSING.");
        Edges.range(0, 4, (x, v) -> x.lay(v, 0, 0));
        Edges.range(0, 3, (x, v) -> x.lay(1, v, 0));
        Edges.range(0, 6, (x, v) -> x.lay(1, 1, v));
        Edges.range(0, 3, (x, v) -> x.lay(1, 2, v));
        Edges.refused(NOTHING, x -> x.lay(0, 2, 2));
        Edges.refused(NOTHING, x -> x.lay(3, 2, 2));
        Edges.refused(BAD, x -> x.lay(5, 2, 2));
        Edges.due(BAD, new MeanSafe().lay(0, 1, 0));
        for (int was = 0; was < 4; was++) {
            for (int next = 0; next < 4; next++) {
                MeanSafe x = Edges.rich();
                for (int slot = 0; slot < 5; slot++) {
                    x.lay(slot, was, 0);
                    Edges.due(was, x.lay(slot, next, 1));
                    Edges.due(next, x.lay(slot, 0, 0));
                    Edges.due(0, x.lay(slot, 0, 0));
                }
            }
        }
        // of nothing and of a number any k
        MeanSafe x = new MeanSafe();
        for (int k : new int[] {MIN, -1, 0, 8, MAX, NONE}) {
            Edges.due(0, x.lay(0, 3, k));
            Edges.due(k == MIN ? 0 : k, x.rest(0, MIN));
            Edges.due(3, x.lay(0, 0, k));
            Edges.due(NOTHING, x.rest(0, 1), x.item(0, 0), x.ask(0, 0));
        }
    }

    private static void ask() {
        Edges.sentence("BAD; NOTHING; KIND: it is none of PEOPLE, or not of that KIND, nor of one under it.");
        Edges.range(0, 4, (x, v) -> x.ask(v, 0));
        Edges.range(0, 5, (x, v) -> x.ask(1, v));
        for (int k : new int[] {-1, 6}) for (int slot = 0; slot < 4; slot++) {
            int s = slot;
            Edges.refused(BAD, x -> x.ask(s, k));
        }
        for (int kind = 0; kind < 6; kind++) {
            int k = kind;
            Edges.refused(NOTHING, x -> x.ask(0, k));
            Edges.refused(KIND, x -> x.ask(2, k));
            Edges.refused(KIND, x -> x.ask(3, k));
        }
        String[] under = {"012345", "13", "24", "3", "4", "5"};
        int[] worth = {4, 14, 45, 28, 42, 1};
        for (int is = 0; is < 6; is++) {
            MeanSafe x = new MeanSafe();
            x.person(is, 10, 4);
            x.set(0, 3, 5);
            x.lay(4, 1, 0);
            for (int kind = 0; kind < 6; kind++) Edges.due(under[kind].indexOf('0' + is) >= 0 ? worth[is] : KIND, x.ask(4, kind));
            Edges.due(is, x.told(0, 0));
        }
        Edges.due(KIND, asked(HALF, SLOW), asked(SLOW, STILL), asked(TELLER, SHOUTER), asked(FOE, SLOW), asked(STILL, TELLER), asked(SHOUTER, FOE));
    }

    private static int asked(int is, int kind) {
        MeanSafe x = Edges.people(is, 1);
        x.lay(0, 1, 0);
        return x.ask(0, kind);
    }

    private static void item() {
        Edges.sentence("A place of the SHEET in a SLOT. BAD: slot; NOTHING; KIND: it is no SHEET; INDEX; KIND: NO NUMBER.");
        Edges.range(0, 4, (x, v) -> x.item(v, 0));
        for (int place : new int[] {MIN, -1, 0, 24, MAX}) {
            Edges.refused(BAD, x -> x.item(5, place));
            Edges.refused(NOTHING, x -> x.item(0, place));
            Edges.refused(KIND, x -> x.item(1, place));
            Edges.refused(KIND, x -> x.item(3, place));
        }
        for (int place : new int[] {MIN, -1, 4, 23, 24, MAX}) Edges.refused(INDEX, x -> x.item(2, place));
        Edges.refused(KIND, x -> x.item(2, 1));
        MeanSafe x = Edges.rich();
        Edges.due(8, x.item(2, 0));
        Edges.due(1, x.item(2, 3));
        x.lay(2, 2, 3);
        Edges.due(INDEX, x.item(2, 0), x.item(2, -1));
        Edges.sheet(x, 0, 0, upTo(24));
        x.lay(2, 2, 0);
        Edges.due(24, x.item(2, 23));
        Edges.due(INDEX, x.item(2, 24));
    }

    private static void rest() {
        Edges.sentence("The rest of the number in a SLOT by n. BAD: slot; NOTHING; KIND: it is no number; NO: n is 0.");
        Edges.range(0, 4, (x, v) -> x.rest(v, 1));
        for (int n : new int[] {0, 1, MIN}) {
            Edges.refused(BAD, x -> x.rest(5, n));
            Edges.refused(NOTHING, x -> x.rest(0, n));
            Edges.refused(KIND, x -> x.rest(1, n));
            Edges.refused(KIND, x -> x.rest(2, n));
        }
        Edges.refused(NO, x -> x.rest(3, 0));
        int[][] rests = {{17, 5, 2}, {-17, 5, -2}, {17, -5, 2}, {-17, -5, -2}, {0, 3, 0}, {0, MIN, 0}, {MIN, -1, 0}, {MIN, 1, 0}, {MAX, -1, 0},
            {MIN, MAX, -1}, {MAX, MIN, MAX}, {MIN, MIN, 0}, {MIN, 10, -8}, {MAX, 10, 7}, {5, 5, 0}, {4, 5, 4}};
        for (int[] r : rests) {
            MeanSafe x = new MeanSafe();
            x.lay(4, 3, r[0]);
            Edges.due(r[2], x.rest(4, r[1]));
        }
    }

    private static void tell() {
        Edges.sentence("One more number waits: how many. FULL: 60 wait.");
        MeanSafe x = new MeanSafe();
        for (int i = 1; i <= 60; i++) {
            Edges.due(i, x.tell(i % 2 == 0 ? MIN : MAX));
            Edges.due(i, x.count(9));
        }
        Edges.due(FULL, x.tell(0), x.tell(0));
        Edges.due(60, x.count(9));
        x.check(1);
        Edges.due(1, x.tell(0));
        Edges.refused(FULL, o -> {
            while (o.count(9) < 60) o.tell(0);
        }, o -> o.tell(1));
    }

    private static void triesTold() {
        Edges.sentence("THE TRIES TOLD: of n TRIES, one behind the other, by THE IMAGE (also where nothing goes any more):"
            + " what it SAYS then; whether it is OPEN (1, 0), behind each.");
        // it opens with the second try
        MeanSafe x = Edges.one(HALF, 49, 24);
        x.keep();
        told(x, 1, 24, 0);
        told(x, 2, 24, 0, 24, 1);
        told(x, 4, 24, 0, 24, 1, 24, 1, 24, 1);
        // by the image, not by what is now
        x.safe(0, 99);
        x.set(0, 1, 7);
        x.safe(4, 1);
        told(x, 2, 24, 0, 24, 1);
        // no bolts from the start, none from the second try on, one that is OPEN from the start, nobody
        x = Edges.one(HALF, 49, 24);
        x.safe(3, 0);
        x.keep();
        told(x, 2, 49, 0, 49, 0);
        x.safe(3, 1);
        x.keep();
        told(x, 3, 24, 0, 24, 0, 24, 0);
        x.safe(4, 1);
        x.keep();
        told(x, 2, 49, 1, 49, 1);
        x = new MeanSafe();
        x.keep();
        told(x, 2, -1, 0, -1, 0);
        x.safe(4, 1);
        x.keep();
        told(x, 1, -1, 1);
    }

    private static void told(MeanSafe x, int n, int... numbers) {
        Edges.tell(x, numbers);
        Edges.due(0, x.check(n));
    }

    private static void check() {
        Edges.sentence("The numbers that wait (none do then, whatever is answered)");
        for (int n : new int[] {MIN, -1, 0, 1, 2, 30, 31, MAX}) {
            MeanSafe x = Edges.rich();
            Edges.due(4, x.count(9));
            x.check(n);
            Edges.due(0, x.count(9));
            x = new MeanSafe();
            x.tell(1);
            x.check(n);
            Edges.due(0, x.count(9));
        }

        Edges.sentence("are THE TRIES TOLD of n (1 .. 30), two by two: 0;"
            + " else 1 and how many stand right ahead of the first that is not (or is missing, or one too many).");
        int[] right = {24, 0, 24, 1, 24, 1};
        for (int many = 0; many <= 6; many++) {
            MeanSafe x = kept();
            for (int i = 0; i < many; i++) x.tell(right[i]);
            Edges.due(many == 6 ? 0 : 1 + many, x.check(3));
        }
        for (int bad = 0; bad < 6; bad++) {
            for (int by : new int[] {-1, 1, MIN}) {
                MeanSafe x = kept();
                for (int i = 0; i < 6; i++) x.tell(i == bad ? right[i] + by : right[i]);
                Edges.due(1 + bad, x.check(3));
            }
        }
        for (int more : new int[] {1, 2, 54}) {
            MeanSafe x = kept();
            Edges.tell(x, right);
            for (int i = 0; i < more; i++) x.tell(24);
            Edges.due(7, x.check(3));
        }
        MeanSafe x = kept();
        for (int i = 0; i < 30; i++) Edges.tell(x, 24, i == 0 ? 0 : 1);
        Edges.due(0, x.check(30));
        for (int i = 0; i < 30; i++) Edges.tell(x, 24, i == 0 ? 0 : i == 29 ? 0 : 1);
        Edges.due(60, x.check(30));
        for (int i = 0; i < 30; i++) Edges.tell(x, 24, i == 0 ? 0 : 1);
        Edges.due(59, x.check(29));
        // what waited before is gone: it is missing then
        for (int many = 0; many < 6; many++) {
            x = kept();
            Edges.tell(x, right);
            Edges.due(0, x.check(3));
            for (int i = 0; i < many; i++) x.tell(right[i]);
            Edges.due(1 + many, x.check(3));
        }
        Edges.tell(x, 24);
        Edges.due(2, x.check(1));
        Edges.tell(x, 24, 0, 24);
        Edges.due(3, x.check(1));

        Edges.sentence("BAD; NO: there is no IMAGE.");
        x = new MeanSafe();
        Edges.due(BAD, x.check(0), x.check(31), x.check(-1), x.check(MIN), x.check(MAX));
        Edges.due(NO, x.check(1), x.check(30));
        x.keep();
        Edges.due(BAD, x.check(0), x.check(31), x.check(MIN), x.check(MAX));
        Edges.due(1, x.check(1), x.check(30));
        for (int n : new int[] {-1, 0, 1, 2, 30, 31}) {
            MeanSafe got = Edges.rich();
            got.check(n);
            MeanSafe want = Edges.rich();
            want.check(MAX);
            Edges.same(want, got);
        }
    }

    private static MeanSafe kept() {
        MeanSafe x = Edges.one(HALF, 49, 24);
        x.keep();
        return x;
    }

    private static void images() {
        Edges.sentence("AN IMAGE keeps all but SHEETS, SLOTS, numbers that wait, THE TAPE; all can become as it is (again and again).");
        for (int again = 1; again < 4; again++) {
            MeanSafe x = Edges.rich();
            x.keep();
            for (int i = 0; i < again; i++) {
                everythingElse(x, i);
                Edges.due(7, x.back());
            }
            MeanSafe want = Edges.rich();
            want.keep();
            Edges.same(want, x);
        }
        MeanSafe x = Edges.rich();
        x.keep();
        Edges.sheet(x, 0, 1, 4, 5);
        x.sheet(1, -1, 0);
        x.lay(1, 3, 44);
        x.lay(2, 0, 0);
        x.tell(9);
        x.trim(5);
        x.back();
        Edges.sheetIs(x, 0, 4, 5);
        Edges.due(NOTHING, x.pour(1), x.item(2, 0));
        Edges.due(44, x.rest(1, 100));
        Edges.due(5, x.count(9), x.count(10));
    }

    /** Changes all that an image keeps. */
    private static void everythingElse(MeanSafe x, int by) {
        x.person(FOE, by, 1);
        for (int one = 0; one < 7; one++) {
            x.turns(one, (x.told(one, 0) + 1 + by) % 6);
            x.set(one, 1, 3 + by);
            x.set(one, 2, 9 - by);
            x.set(one, 3, by - 3);
            x.set(one, 6, 1 - x.told(one, 6));
        }
        x.seed(by);
        x.tries(2);
        x.safe(0, 1 + by);
        x.safe(1, by % 3);
        x.safe(2, -by);
        x.safe(3, 7);
        int length = x.count(10);
        if (length == 8) {
            x.text();
            Edges.law(x, "set 3");
            Edges.law(x, "fine 4");
            Edges.type(x, "fee 7777");
        }
        x.forget();
        x.safe(4, 1);
    }

    private static void keepAndBack() {
        Edges.sentence("AN IMAGE is kept: how many PEOPLE.");
        MeanSafe x = new MeanSafe();
        Edges.due(0, x.keep());
        for (int i = 1; i <= 8; i++) {
            x.person(HALF, i, 1);
            Edges.due(i, x.keep());
        }
        Edges.due(8, x.keep());

        Edges.sentence("All is as THE IMAGE: how many PEOPLE. NO: there is none.");
        Edges.due(NO, new MeanSafe().back());
        x = new MeanSafe();
        x.person(HALF, 1, 1);
        x.seed(5);
        Edges.due(NO, x.back());
        Edges.due(1, x.count(0));
        Edges.due(5, x.count(11));
        x = new MeanSafe();
        x.keep();
        x.deal(8);
        Edges.due(0, x.back(), x.count(0), x.back());
        Edges.due(BAD, x.told(0, 0));
        Edges.due(0, x.person(SLOW, 33, 2));
        Edges.row((o, i) -> o.told(0, i), x, 1, 33, 2, 0, 0, 99, 1);
        // the later image takes the place of the earlier one, with more people or with fewer
        x.keep();
        x.deal(7);
        Edges.due(8, x.keep());
        Edges.due(8, x.back());
        x = new MeanSafe();
        x.deal(8);
        x.keep();
        Edges.due(8, x.back(), x.keep(), x.back());
        Edges.due(FULL, x.person(HALF, 1, 1));
    }

    private static void count() {
        Edges.sentence("7 who HEAR, as a set, 8 TEXTS, 9 numbers that wait, 10 bytes of THE TAPE, 11 z. BAD.");
        Edges.range(0, 11, (x, v) -> x.count(v));
        for (int what = 0; what < 12; what++) {
            int w = what;
            Edges.changesNothing(x -> { }, x -> x.count(w));
        }
        MeanSafe x = new MeanSafe();
        x.deal(8);
        x.seed(BAD);
        x.safe(0, 99);
        x.safe(1, 2);
        x.safe(2, -5);
        x.safe(3, 0);
        x.safe(4, 1);
        for (int i = 0; i < 14; i++) Edges.law(x, "fee 1");
        for (int i = 0; i < 60; i++) x.tell(i);
        for (int i = 0; i < 8; i++) x.feed(0, 0, 0);
        Edges.row((o, i) -> o.count(i), x, 8, 0, 99, 2, -5, 0, 1, 255, 14, 60, 96, BAD);
    }
}
