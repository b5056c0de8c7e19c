/** Boundary cases of the terms, of parts 1 and 2, and of promises 1 to 12. */
public final class EdgesPeopleTest {
    private static final int BAD = Edges.BAD, FULL = Edges.FULL, NONE = Edges.NONE, NO = Edges.NO, NOTHING = Edges.NOTHING,
            KIND = Edges.KIND;
    private static final int HALF = 0, SLOW = 1, TELLER = 2, STILL = 3, SHOUTER = 4, FOE = 5;
    private static final int MIN = Edges.MIN, MAX = Edges.MAX;
    private static final int[] EIGHT = {0, 1, 2, 3, 4, 5, 6, 7};

    public static void main(String[] args) {
        terms();
        newObject();
        theSafeItself();
        thePeople();
        kinds();
        settings();
        worth();
        voice();
        aTry();
        beliefs();
        drift();
        draws();
        personAndTold();
        asAndTurns();
        setAndForget();
        dealAndSeed();
        safeAndTries();
        Edges.end();
    }

    private static void terms() {
        Edges.sentence("/ cuts towards 0");
        Edges.due(-3, Edges.gives("(0-7)/2"), Edges.gives("7/(0-2)"));
        Edges.due(3, Edges.gives("7/2"), Edges.gives("(0-7)/(0-2)"));
        Edges.due(0, Edges.gives("1/2"), Edges.gives("(0-1)/2"));

        Edges.sentence("changes nothing (but the tape and the numbers that wait, where told)");
        MeanSafe x = Edges.rich();
        Edges.due(4, x.count(9));
        Edges.due(8, x.count(10));
        Edges.due(0, x.check(2));
        Edges.due(3, x.text());
        Edges.same(Edges.rich(), Edges.rich());

        Edges.sentence("NONE: there is none.");
        x = new MeanSafe();
        Edges.due(NONE, x.why(0), x.why(1), x.why(2), x.needs(0), x.tells(0), x.tells(1));

        Edges.sentence("Sets of PEOPLE are told by bits.");
        x = new MeanSafe();
        Edges.due(0, x.count(7));
        for (int i : EIGHT) {
            x.person(HALF, 1, 1);
            Edges.due((1 << (i + 1)) - 1, x.count(7));
        }
        for (int i : EIGHT) {
            x.set(i, 6, 0);
            Edges.due(255 - (1 << i), x.count(7));
            x.set(i, 6, 1);
        }
    }

    private static void newObject() {
        Edges.sentence("`MeanSafe()`: As told; nobody.");
        MeanSafe x = new MeanSafe();
        Edges.row((o, i) -> o.count(i), x, 0, 0, 0, 0, 0, 99, 0, 0, 0, 0, 0, 1);
        for (int what = 0; what < 9; what++) Edges.due(BAD, x.told(0, what));
        for (int kind = 0; kind < 6; kind++) Edges.due(BAD, x.as(0, kind), x.turns(0, kind));
        Edges.due(BAD, x.set(0, 1, 1), x.start(0, 0), x.keeps(0), x.behind(0, 0, 0), x.fine(0), x.textTold(0, 0), x.lay(0, 1, 0));
        Edges.due(-1, x.says());
        Edges.due(0, x.forget(), x.fee(), x.tries(1));
        for (int i = 0; i < 4; i++) Edges.due(NOTHING, x.pour(i), x.reads(i), x.left(i, 0), x.mark(i, 0, 0), x.lay(0, 2, i));
        for (int i = 0; i < 5; i++) Edges.due(NOTHING, x.ask(i, 0), x.item(i, 0), x.rest(i, 1));
        Edges.due(NO, x.back(), x.check(1));
        Edges.due(-100, x.text());
    }

    private static void theSafeItself() {
        Edges.sentence("NUMBER 0 .. 99 (0 at first)");
        Edges.due(0, new MeanSafe().safe(0, 99));
        Edges.range(0, 99, (x, v) -> x.safe(0, v));
        Edges.range(0, 99, (x, v) -> x.needs(v));

        Edges.sentence("LAW 0 mean (at first), 1 middle, 2 greatest");
        Edges.due(0, new MeanSafe().safe(1, 2));
        Edges.range(0, 2, (x, v) -> x.safe(1, v));

        Edges.sentence("DRIFT -5 .. 5 (0)");
        Edges.due(0, new MeanSafe().safe(2, 5));
        Edges.range(-5, 5, (x, v) -> x.safe(2, v));

        Edges.sentence("BOLTS 0 .. 99 (99 at first)");
        Edges.due(99, new MeanSafe().safe(3, 0));
        Edges.range(0, 99, (x, v) -> x.safe(3, v));

        Edges.sentence("OPEN or not (not)");
        Edges.due(0, new MeanSafe().safe(4, 1));
        Edges.range(0, 1, (x, v) -> x.safe(4, v));

        Edges.sentence("TRIES is 0 at first, 9999 at most.");
        MeanSafe x = Edges.one(STILL, 50, 0);
        Edges.due(0, x.count(1));
        for (int i = 0; i < 101; i++) {
            x.safe(3, 99);
            x.tries(100);
        }
        Edges.due(9999, x.count(1), x.fee());
        x.safe(3, 99);
        Edges.due(0, x.tries(1), x.tries(100));
        Edges.due(9999, x.count(1));
        Edges.due(99, x.count(5));
        x.safe(0, 50);
        Edges.due(0, x.tries(1), x.count(6));
    }

    private static void thePeople() {
        Edges.sentence("PEOPLE, 8 at most, numbered from 0");
        MeanSafe x = new MeanSafe();
        for (int i : EIGHT) {
            Edges.due(BAD, x.told(i, 0));
            Edges.due(i, x.person(HALF, 10 + i, 1));
            Edges.due(i + 1, x.count(0));
            Edges.due(10 + i, x.told(i, 1));
        }
        Edges.due(FULL, x.person(HALF, 1, 1));
        Edges.due(8, x.count(0));
        Edges.due(BAD, x.told(8, 0));

        Edges.sentence("DIAL 0 .. 99, WEIGHT 1 .. 9, BIAS -20 .. 20 (0 at first), LOW, HIGH (0 and 99 at first),"
            + " HEARS or not (hears, at first)");
        x = new MeanSafe();
        x.person(SHOUTER, 0, 1);
        x.person(FOE, 99, 9);
        Edges.row((o, i) -> o.told(0, i), x, 4, 0, 1, 0, 0, 99, 1);
        Edges.row((o, i) -> o.told(1, i), x, 5, 99, 9, 0, 0, 99, 1);
        Edges.range(0, 99, (o, v) -> o.person(HALF, v, 1));
        Edges.range(1, 9, (o, v) -> o.person(HALF, 1, v));
        Edges.range(0, 99, (o, v) -> o.set(0, 1, v));
        Edges.range(1, 9, (o, v) -> o.set(0, 2, v));
        Edges.range(-20, 20, (o, v) -> o.set(0, 3, v));
        Edges.range(0, 1, (o, v) -> o.set(0, 6, v));
    }

    private static void kinds() {
        Edges.sentence("0 HALF; 1 SLOW, 2 TELLER, 5 FOE, under HALF; 3 STILL, under SLOW; 4 SHOUTER, under TELLER");
        String[] under = {"012345", "13", "24", "3", "4", "5"};
        MeanSafe x = new MeanSafe();
        for (int kind = 0; kind < 6; kind++) x.person(kind, 20 + kind, 1);
        for (int kind = 0; kind < 6; kind++) {
            for (int one = 0; one < 6; one++) {
                Edges.due(under[kind].indexOf('0' + one) >= 0 ? 20 + one : KIND, x.as(one, kind));
            }
        }
    }

    private static void settings() {
        Edges.sentence("HALF: what set gives, held within 0 .. 99");
        String[] set = {"0-9999*9999", "0-1", "0", "1", "98", "99", "100", "9999", "9999*9999*30", "0-9999*9999*30", "8192*8192*32"};
        int[] due = {0, 0, 0, 1, 98, 99, 99, 99, 0, 99, 0};
        for (int i = 0; i < set.length; i++) {
            MeanSafe x = Edges.one(HALF, 50, 0);
            Edges.due(0, Edges.law(x, "set " + set[i]));
            Edges.due(due[i], x.told(0, 7));
            x.tries(1);
            Edges.due(due[i], x.told(0, 1));
        }

        Edges.sentence("(without a TEXT: (LOW and HIGH) / 2)");
        Edges.due(49, believing(0, 99).told(0, 7), believing(0, 98).told(0, 7));
        Edges.due(0, believing(0, 0).told(0, 7), believing(0, 1).told(0, 7));
        Edges.due(99, believing(99, 99).told(0, 7));
        Edges.due(98, believing(98, 99).told(0, 7));
        Edges.due(61, believing(60, 63).told(0, 7));

        Edges.sentence("SLOW: the middle (cut) of its DIAL and of as HALF.");
        int[][] slow = {{0, 0, 0}, {1, 0, 0}, {0, 1, 0}, {0, 99, 49}, {99, 0, 49}, {99, 98, 98}, {99, 99, 99}, {99, 500, 99}};
        for (int[] s : slow) Edges.due(s[2], sets(SLOW, s[0], 0, s[1]));
        Edges.due(10, sets(SLOW, 20, 0, -50));

        Edges.sentence("STILL: its DIAL.");
        for (int dial : new int[] {0, 50, 99}) Edges.due(dial, sets(STILL, dial, 20, 77), sets(STILL, dial, -20, -1));

        Edges.sentence("TELLER: as HALF, and BIAS, held within 0 .. 99.");
        int[][] teller = {{99, 1, 99}, {98, 1, 99}, {97, 1, 98}, {0, -1, 0}, {1, -1, 0}, {2, -1, 1}, {99, 20, 99}, {0, -20, 0},
            {20, -20, 0}, {79, 20, 99}, {150, -20, 79}, {-50, 20, 20}, {50, 0, 50}};
        for (int[] t : teller) Edges.due(t[2], sets(TELLER, 5, t[1], t[0]));

        Edges.sentence("SHOUTER: as TELLER, and BIAS once more, held within 0 .. 99.");
        int[][] shouter = {{99, 1, 99}, {97, 1, 99}, {96, 1, 98}, {2, -1, 0}, {3, -1, 1}, {1, -1, 0}, {59, 20, 99}, {58, 20, 98},
            {40, -20, 0}, {41, -20, 1}, {150, -20, 59}, {-50, 20, 40}, {50, 0, 50}};
        for (int[] s : shouter) Edges.due(s[2], sets(SHOUTER, 5, s[1], s[0]));

        Edges.sentence("FOE: 0, if as HALF is 50 or more, else 99.");
        int[][] foe = {{49, 99}, {50, 0}, {0, 99}, {99, 0}, {-1, 99}, {100, 0}};
        for (int[] f : foe) Edges.due(f[1], sets(FOE, 5, 0, f[0]), sets(FOE, 95, 20, f[0]), sets(FOE, 95, -20, f[0]));
    }

    /** What one of a kind sets, if the text of set gives this. */
    private static int sets(int kind, int dial, int bias, int gives) {
        MeanSafe x = Edges.one(kind, dial, 0);
        x.set(0, 3, bias);
        Edges.due(0, Edges.law(x, gives < 0 ? "set 0-" + -gives : "set " + gives));
        return x.told(0, 7);
    }

    /** One of kind HALF who believes low .. high. */
    private static MeanSafe believing(int low, int high) {
        MeanSafe x = Edges.one(STILL, 0, 0);
        if (low > 0) hears(x, low - 1, low);
        if (high < 99) hears(x, high + 1, high);
        x.turns(0, HALF);
        Edges.due(low, x.told(0, 4));
        Edges.due(high, x.told(0, 5));
        return x;
    }

    /** One try with the dial of the only one, who does not move. */
    private static void hears(MeanSafe x, int dial, int number) {
        x.set(0, 1, dial);
        x.safe(0, number);
        x.tries(1);
    }

    private static void worth() {
        Edges.sentence("WORTH: HALF: WEIGHT. SLOW: as HALF, and 10. STILL: twice as SLOW. TELLER: 50 less BIAS."
            + " SHOUTER: as TELLER, less 3. FOE: 1.");
        int[][] due = {{1, 9, 1, 9}, {11, 19, 11, 19}, {70, 70, 30, 30}, {22, 38, 22, 38}, {67, 67, 27, 27}, {1, 1, 1, 1}};
        for (int kind = 0; kind < 6; kind++) {
            for (int i = 0; i < 4; i++) {
                MeanSafe x = new MeanSafe();
                x.person(kind, 50, i % 2 == 0 ? 1 : 9);
                x.set(0, 3, i < 2 ? -20 : 20);
                x.lay(0, 1, 0);
                Edges.due(due[kind][i], x.told(0, 8), x.ask(0, kind), x.ask(0, HALF));
            }
        }
    }

    private static void voice() {
        Edges.sentence("mean: all DIALS times their WEIGHTS, together, by all WEIGHTS, together (cut).");
        Edges.due(49, says(0, 0, 1, 99, 1));
        Edges.due(89, says(0, 99, 9, 0, 1));
        Edges.due(9, says(0, 99, 1, 0, 9));
        Edges.due(0, says(0, 0, 9), says(0, 0, 1, 1, 1), says(0, 8, 1, 0, 8));
        Edges.due(1, says(0, 8, 1, 0, 7));
        Edges.due(99, says(0, 99, 9, 99, 9, 99, 9, 99, 9, 99, 9, 99, 9, 99, 9, 99, 9));
        Edges.due(98, says(0, 99, 9, 99, 9, 99, 9, 99, 9, 99, 9, 99, 9, 99, 9, 98, 1));

        Edges.sentence("Middle: of all DIALS in order of size, each as often as its WEIGHT,"
            + " the one at the place how many there are / 2 (from 0 on).");
        Edges.due(20, says(1, 10, 1, 20, 1), says(1, 20, 1, 10, 1), says(1, 10, 4, 20, 5), says(1, 20, 9, 10, 9), says(1, 10, 2, 20, 2));
        Edges.due(10, says(1, 10, 2, 20, 1), says(1, 20, 4, 10, 5), says(1, 10, 1), says(1, 10, 9));
        Edges.due(50, says(1, 90, 1, 10, 1, 50, 1), says(1, 50, 1, 50, 9, 50, 2), says(1, 99, 1, 0, 1, 50, 1));
        Edges.due(99, says(1, 0, 8, 99, 9), says(1, 99, 1), says(1, 99, 1, 0, 1));
        Edges.due(0, says(1, 0, 9, 99, 8), says(1, 0, 1));
        Edges.due(40, says(1, 0, 1, 10, 1, 20, 1, 30, 1, 40, 1, 50, 1, 60, 1, 70, 1));
        Edges.due(70, says(1, 0, 1, 10, 1, 20, 1, 30, 1, 40, 1, 50, 1, 60, 1, 70, 9));

        Edges.sentence("Greatest: the greatest DIAL.");
        Edges.due(99, says(2, 99, 1, 0, 9), says(2, 0, 9, 99, 1), says(2, 0, 1, 99, 1, 98, 9));
        Edges.due(0, says(2, 0, 1), says(2, 0, 9, 0, 9));
        Edges.due(8, says(2, 1, 1, 2, 1, 3, 1, 4, 1, 5, 1, 6, 1, 7, 1, 8, 1), says(2, 8, 1, 7, 1, 6, 1, 5, 1, 4, 1, 3, 1, 2, 1, 1, 1));

        Edges.sentence("(Without PEOPLE: -1.)");
        Edges.due(-1, says(0), says(1), says(2));
    }

    private static int says(int law, int... dialsAndWeights) {
        MeanSafe x = new MeanSafe();
        x.safe(1, law);
        for (int i = 0; i < dialsAndWeights.length; i += 2) x.person(STILL, dialsAndWeights[i], dialsAndWeights[i + 1]);
        return x.says();
    }

    private static void aTry() {
        Edges.sentence("(nothing, if it is OPEN, if there is nobody, or if BOLTS is 0.)");
        Edges.changesNothing(x -> x.safe(4, 1), x -> x.tries(9));
        Edges.changesNothing(x -> x.safe(3, 0), x -> x.tries(9));
        MeanSafe x = new MeanSafe();
        x.safe(2, 5);
        Edges.due(0, x.tries(100), x.count(1), x.count(2));
        Edges.due(99, x.count(5));
        x = Edges.one(HALF, 49, 49);
        x.safe(4, 1);
        Edges.due(0, x.tries(1), x.count(1));
        x.safe(4, 0);
        x.safe(3, 0);
        Edges.due(0, x.tries(1), x.count(1), x.count(6));
        x.safe(3, 1);
        Edges.due(1, x.tries(100), x.count(1), x.count(6));

        Edges.sentence("(1) BOLTS is 1 less, TRIES 1 more.");
        x = Edges.one(STILL, 50, 0);
        x.safe(3, 2);
        x.tries(1);
        Edges.due(1, x.count(5), x.count(1));
        x.tries(1);
        Edges.due(0, x.count(5));
        Edges.due(2, x.count(1));

        Edges.sentence("(2) It SAYS s: if s is NUMBER, it is OPEN, and that is all.");
        for (int dial : new int[] {0, 10, 99}) {
            x = Edges.one(HALF, dial, dial);
            x.safe(2, -5);
            Edges.due(1, x.tries(100), x.count(6), x.count(1));
            Edges.due(98, x.count(5));
            Edges.due(dial, x.count(2), x.told(0, 1));
            Edges.due(0, x.told(0, 4));
            Edges.due(99, x.told(0, 5));
        }
    }

    private static void beliefs() {
        Edges.sentence("if s is above NUMBER: HIGH is s less 1, else LOW is s and 1 (each held within 0 .. 99)");
        int[][] heard = {{50, 49, 0, 49}, {50, 51, 51, 99}, {1, 0, 0, 0}, {99, 0, 0, 98}, {0, 1, 1, 99}, {98, 99, 99, 99}, {0, 99, 1, 99}};
        for (int[] h : heard) {
            MeanSafe x = Edges.one(STILL, h[0], h[1]);
            x.tries(1);
            Edges.due(h[2], x.told(0, 4));
            Edges.due(h[3], x.told(0, 5));
        }

        Edges.sentence("if LOW is above HIGH then: 0 and 99 (all of it).");
        int[][] twice = {{50, 60, 52, 40, 51, 51}, {50, 60, 51, 40, 0, 99}, {50, 60, 50, 40, 0, 99}, {50, 40, 48, 60, 49, 49},
            {50, 40, 49, 60, 0, 99}, {50, 60, 53, 40, 51, 52}, {50, 60, 10, 40, 11, 99}, {50, 40, 90, 40, 0, 89}};
        for (int[] t : twice) {
            MeanSafe x = Edges.one(STILL, 0, 0);
            hears(x, t[0], t[1]);
            hears(x, t[2], t[3]);
            Edges.due(t[4], x.told(0, 4));
            Edges.due(t[5], x.told(0, 5));
        }
        MeanSafe reset = Edges.one(STILL, 0, 0);
        hears(reset, 50, 60);
        reset.turns(0, HALF);
        hears(reset, 50, 40);
        Edges.due(49, reset.told(0, 1));

        Edges.sentence("(3) To all who HEAR:");
        MeanSafe x = Edges.people(STILL, 50, 50, 50);
        x.set(1, 6, 0);
        x.tries(1);
        Edges.due(49, x.told(0, 5), x.told(2, 5));
        Edges.due(99, x.told(1, 5));
        x.safe(0, 99);
        x.set(1, 6, 1);
        x.set(0, 6, 0);
        x.tries(1);
        Edges.due(0, x.told(0, 4));
        Edges.due(51, x.told(1, 4));
        Edges.due(49, x.told(0, 5));
        Edges.due(0, x.told(2, 4));
        Edges.due(99, x.told(2, 5));

        Edges.sentence("(4) All set their DIALS anew at once, by what is then.");
        x = new MeanSafe();
        for (int kind = 0; kind < 6; kind++) {
            x.person(kind, 80, 1);
            x.set(kind, 3, 7);
        }
        x.person(HALF, 80, 1);
        x.set(6, 6, 0);
        x.safe(0, 10);
        x.tries(1);
        // all but the last believe 0 .. 79 then
        Edges.row((o, i) -> o.told(i, 1), x, 39, 59, 46, 80, 53, 99, 49);
    }

    private static void drift() {
        Edges.sentence("(5) NUMBER is DRIFT more, round from 99 to 0 and back.");
        int[][] drifts = {{99, 1, 0}, {98, 1, 99}, {95, 5, 0}, {94, 5, 99}, {99, 5, 4}, {97, 3, 0}, {0, -1, 99}, {1, -1, 0}, {5, -5, 0},
            {4, -5, 99}, {0, -5, 95}, {10, 0, 10}, {99, 0, 99}, {0, 0, 0}};
        for (int[] d : drifts) {
            MeanSafe x = Edges.one(STILL, 50, d[0]);
            x.safe(2, d[1]);
            Edges.due(d[2], x.behind(0, 1, 2));
            x.tries(1);
            Edges.due(d[2], x.count(2));
        }
        MeanSafe x = Edges.one(STILL, 50, 51);
        x.safe(2, 5);
        x.tries(99);
        Edges.due((51 + 99 * 5) % 100, x.count(2));
        x.safe(2, -5);
        x.safe(3, 99);
        x.tries(99);
        Edges.due(51, x.count(2));
    }

    private static void draws() {
        Edges.sentence("z is told (1 at first).");
        Edges.due(1, new MeanSafe().count(11), new MeanSafe().seed(9));

        Edges.sentence("A draw: z becomes z * 1103515245 + 12345 (an int); it gives z >>> 8.");
        for (int seed : new int[] {1, 0, -1, MIN, MAX, 123456789, -987654321}) {
            MeanSafe x = new MeanSafe();
            x.seed(seed);
            Edges.due(8, x.deal(8));
            long z = seed;
            for (int i : EIGHT) {
                int[] by = {6, 100, 5, 21};
                int[] more = {0, 0, 1, -10};
                for (int k = 0; k < 4; k++) {
                    z = (int) (z * 1103515245L + 12345L);
                    long draw = (z & 0xffffffffL) / 256;
                    Edges.due((int) (draw % by[k]) + more[k], x.told(i, k));
                }
                Edges.due(0, x.told(i, 4));
                Edges.due(99, x.told(i, 5));
                Edges.due(1, x.told(i, 6));
            }
            Edges.due((int) z, x.count(11));
        }
    }

    private static void personAndTold() {
        Edges.sentence("One more of PEOPLE: its number. BAD; FULL.");
        Edges.range(0, 5, (x, v) -> x.person(v, 1, 1));
        Edges.refused(FULL, x -> x.deal(1), x -> x.person(HALF, 1, 1));
        Edges.refused(BAD, x -> x.deal(1), x -> x.person(6, 1, 1));
        Edges.refused(BAD, x -> x.deal(1), x -> x.person(0, 100, 1));
        Edges.refused(BAD, x -> x.deal(1), x -> x.person(0, 1, 0));
        Edges.due(7, Edges.rich().person(FOE, 1, 1));

        Edges.sentence("6 whether it HEARS (1, 0), 7 SETS, 8 WORTH. BAD.");
        Edges.range(0, 6, (x, v) -> x.told(v, 0));
        Edges.range(0, 8, (x, v) -> x.told(0, v));
        for (int what = 0; what < 9; what++) {
            int w = what;
            Edges.changesNothing(x -> { }, x -> x.told(3, w));
        }
    }

    private static void asAndTurns() {
        Edges.sentence("BAD: one, kind; KIND: it is not of that KIND, nor of one under it.");
        Edges.range(0, 6, (x, v) -> x.as(v, HALF));
        Edges.range(0, 5, (x, v) -> x.as(6, v));
        Edges.refused(KIND, x -> x.as(6, FOE));
        Edges.refused(BAD, x -> x.as(7, FOE));
        Edges.refused(BAD, x -> x.as(6, 6));

        Edges.sentence("One is of another KIND from now on: what it was. BAD.");
        Edges.range(0, 6, (x, v) -> x.turns(v, HALF));
        Edges.range(0, 5, (x, v) -> x.turns(6, v));
        MeanSafe x = new MeanSafe();
        x.person(FOE, 33, 4);
        x.set(0, 3, -20);
        Edges.due(5, x.turns(0, FOE), x.turns(0, HALF));
        Edges.due(0, x.turns(0, SLOW));
        Edges.row((o, i) -> o.told(0, i), x, 1, 33, 4, -20, 0, 99, 1, 41, 14);
    }

    private static void setAndForget() {
        Edges.sentence("DIAL, WEIGHT, BIAS (what 1 .. 3), HEARS (6; 0, 1) of one becomes v: what it was. BAD.");
        Edges.range(0, 6, (x, v) -> x.set(v, 1, 1));
        for (int what : new int[] {MIN, -1, 0, 4, 5, 7, 8, MAX}) {
            Edges.refused(BAD, x -> x.set(0, what, 0));
            Edges.refused(BAD, x -> x.set(0, what, 1));
        }
        MeanSafe x = Edges.one(HALF, 50, 0);
        Edges.due(50, x.set(0, 1, 0));
        Edges.due(0, x.set(0, 1, 99), x.set(0, 3, -20));
        Edges.due(99, x.set(0, 1, 7));
        Edges.due(1, x.set(0, 2, 9), x.set(0, 6, 0));
        Edges.due(9, x.set(0, 2, 8));
        Edges.due(-20, x.set(0, 3, 20));
        Edges.due(20, x.set(0, 3, 6));
        Edges.due(0, x.set(0, 6, 0));
        Edges.row((o, i) -> o.told(0, i), x, 0, 7, 8, 6, 0, 99, 0);

        Edges.sentence("All believe 0 .. 99 again: how many believed otherwise.");
        Edges.due(0, new MeanSafe().forget(), Edges.one(HALF, 1, 1).forget());
        x = Edges.people(STILL, 50, 50, 50);
        x.set(0, 6, 0);
        x.tries(1);
        x.set(2, 6, 0);
        x.safe(0, 99);
        x.set(0, 6, 1);
        x.set(1, 6, 0);
        x.tries(1);
        // LOW alone, HIGH alone, HIGH alone of one who does not hear
        Edges.due(51, x.told(0, 4));
        Edges.due(49, x.told(1, 5), x.told(2, 5));
        Edges.due(3, x.forget());
        Edges.due(0, x.told(0, 4), x.told(1, 4), x.told(2, 4), x.forget());
        Edges.due(99, x.told(0, 5), x.told(1, 5), x.told(2, 5));
        Edges.due(1, x.count(7));
    }

    private static void dealAndSeed() {
        Edges.sentence("PEOPLE are drawn, n (1 .. 8) of them, as many as there is room for (no draws for others): how many came. BAD.");
        Edges.range(1, 8, (x, v) -> x.deal(v));
        MeanSafe x = Edges.people(HALF, 1, 2, 3, 4, 5, 6, 7);
        Edges.due(1, x.deal(8));
        int z = 1;
        for (int i = 0; i < 4; i++) z = z * 1103515245 + 12345;
        Edges.due(z, x.count(11));
        Edges.due(0, x.deal(1), x.deal(8));
        Edges.due(z, x.count(11));
        Edges.due(8, x.count(0));
        Edges.due(BAD, x.deal(0), x.deal(9));
        x = new MeanSafe();
        Edges.due(1, x.deal(1));
        Edges.due(z, x.count(11));
        Edges.due(7, x.deal(8));

        Edges.sentence("z becomes v: what it was.");
        x = new MeanSafe();
        Edges.due(1, x.seed(MIN));
        Edges.due(MIN, x.seed(MAX));
        Edges.due(MAX, x.seed(0));
        Edges.due(0, x.seed(-1));
        Edges.due(-1, x.seed(BAD));
        Edges.due(BAD, x.count(11));
    }

    private static void safeAndTries() {
        Edges.sentence("OPEN (4; 0, 1) becomes v: what it was. BAD.");
        Edges.range(0, 4, (x, v) -> x.safe(v, 1));
        MeanSafe x = new MeanSafe();
        int[][] edges = {{0, 99, 0}, {1, 2, 0}, {2, -5, 5}, {3, 0, 99}, {4, 1, 0}};
        int[] first = {0, 0, 0, 99, 0};
        for (int[] e : edges) {
            Edges.due(first[e[0]], x.safe(e[0], e[1]));
            Edges.due(e[1], x.count(2 + e[0]), x.safe(e[0], e[2]));
            Edges.due(e[2], x.count(2 + e[0]));
        }

        Edges.sentence("What it SAYS.");
        for (int law = 0; law < 3; law++) {
            int l = law;
            Edges.changesNothing(o -> o.safe(1, l), o -> o.says());
        }

        Edges.sentence("n (1 .. 100) TRIES (no more than up to 9999): how many there were. BAD.");
        Edges.range(1, 100, (o, v) -> o.tries(v));
        x = Edges.one(STILL, 50, 0);
        Edges.due(1, x.tries(1));
        Edges.due(98, x.tries(100));
        Edges.due(0, x.tries(100), x.count(5));
        for (int i = 0; i < 100; i++) {
            x.safe(3, 99);
            Edges.due(99, x.tries(99));
        }
        Edges.due(9999, x.count(1));
        x = Edges.one(STILL, 50, 0);
        for (int i = 0; i < 100; i++) {
            x.safe(3, 99);
            x.tries(99);
        }
        x.safe(3, 99);
        Edges.due(98, x.tries(98));
        Edges.due(9998, x.count(1));
        x.safe(3, 50);
        Edges.due(1, x.tries(2));
        Edges.due(49, x.count(5));
        Edges.due(0, x.tries(1));
        Edges.due(49, x.count(5));
    }
}
