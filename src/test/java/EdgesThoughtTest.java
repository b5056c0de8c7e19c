/** Boundary cases of part 3, of promises 13 to 20, and of what fee and fine give. */
public final class EdgesThoughtTest {
    private static final int BAD = Edges.BAD, NONE = Edges.NONE, NOTHING = Edges.NOTHING;
    private static final int HALF = 0, TELLER = 2, STILL = 3, FOE = 5;
    private static final int NEVER = 13;

    public static void main(String[] args) {
        onlyThought();
        withoutBolts();
        needs();
        worst();
        had();
        start();
        tells();
        keeps();
        behind();
        left();
        leftAtEdges();
        feeAndFine();
        Edges.end();
    }

    /** Safes at edges: each kind, each law, a drift, people who do not hear, a text, one that is OPEN, nobody. */
    private static MeanSafe made(int which) {
        MeanSafe x = new MeanSafe();
        x.safe(0, which * 11 % 100);
        x.safe(1, which % 3);
        x.safe(2, which % 11 - 5);
        if (which < 6) x.person(which, which * 19, 1 + which);
        if (which > 5 && which < 11) {
            x.seed(which);
            x.deal(which - 3);
            x.set(which % 3, 6, 0);
        }
        if (which == 3 || which == 8) Edges.law(x, "set (l+h*2)/3");
        if (which == 10) x.safe(4, 1);
        return x;
    }

    private static final int MADE = 12;

    private static int orNever(int needs) {
        return needs == NONE ? NEVER : needs;
    }

    private static int together(MeanSafe x) {
        int sum = 0;
        for (int k = 0; k < 100; k++) sum += orNever(x.needs(k));
        return sum;
    }

    private static void onlyThought() {
        Edges.sentence("(All this is only thought: nothing changes;");
        for (int open = 0; open < 2; open++) {
            int o = open;
            Edges.Calls before = x -> x.safe(4, o);
            for (int w = 0; w < 2; w++) {
                int what = w;
                Edges.changesNothing(before, x -> x.needs(what * 99));
                Edges.changesNothing(before, x -> x.worst(what));
                Edges.changesNothing(before, x -> x.had(what * 12));
                Edges.changesNothing(before, x -> x.start(what * 6, what));
                Edges.changesNothing(before, x -> x.tells(what));
                Edges.changesNothing(before, x -> x.keeps(what * 6));
                Edges.changesNothing(before, x -> x.left(what, what));
                Edges.changesNothing(before, x -> x.reads(what));
            }
            for (int w = 0; w < 4; w++) {
                int what = w;
                Edges.changesNothing(before, x -> x.behind(what, 100, what));
            }
            Edges.changesNothing(before, x -> x.fee());
            Edges.changesNothing(before, x -> x.fine(6));
        }
    }

    private static void withoutBolts() {
        Edges.sentence("NEEDS, what is told by NEEDS, and LEFT without the bound by BOLTS.)");
        for (int bolts : new int[] {0, 1, 99}) {
            MeanSafe x = Edges.one(HALF, 49, 99);
            x.safe(3, bolts);
            Edges.due(7, x.needs(99), x.worst(1));
            Edges.due(1, x.worst(0));
            Edges.due(100, x.had(7));
            Edges.due(13 - 7, x.keeps(0));
            Edges.due(580, x.tells(1));
            int all = x.start(0, 1);
            x.safe(3, 99);
            Edges.due(x.start(0, 1), all);
            x.safe(3, bolts);
            Edges.sheet(x, 0, 0, -1, -1, -1, -1, -1, -1, 0);
            Edges.due(1, x.left(0, 0));
            Edges.due(99, x.left(0, 1));
            Edges.sheet(x, 1, 0, 6, 7, 5, 6, 7, 4);
            Edges.due(NONE, x.reads(1));
        }
    }

    private static void needs() {
        Edges.sentence("how many TRIES from now on, if that is NUMBER, till it is OPEN (12 at most; 0, if it is OPEN now).");
        for (int which = 0; which < MADE; which++) {
            for (int k = 0; k < 100; k++) {
                MeanSafe x = made(which);
                int needs = x.needs(k);
                x.safe(0, k);
                int tried = x.tries(12);
                Edges.due(x.count(6) == 1 ? tried : NONE, needs);
            }
        }
        MeanSafe x = Edges.one(STILL, 50, 0);
        Edges.due(1, x.needs(50));
        Edges.due(NONE, x.needs(49), x.needs(51), x.needs(0), x.needs(99));
        x.safe(2, 1);
        Edges.due(12, x.needs(39));
        Edges.due(NONE, x.needs(38), x.needs(51));
        x.safe(2, -5);
        Edges.due(12, x.needs(5));
        Edges.due(11, x.needs(0));
        Edges.due(NONE, x.needs(10), x.needs(45));
        x.safe(4, 1);
        Edges.due(0, x.needs(0), x.needs(50), x.needs(99));

        Edges.sentence("NEEDS of a NUMBER. BAD; NONE: never in 12.");
        Edges.range(0, 99, (o, v) -> o.needs(v));
        x = new MeanSafe();
        Edges.due(NONE, x.needs(0), x.needs(99));
        Edges.due(BAD, x.needs(-1), x.needs(100));
        x.safe(4, 1);
        Edges.due(0, x.needs(0));
    }

    private static void worst() {
        Edges.sentence("WORST: the NUMBER with the greatest NEEDS (one that is never OPEN in 12: 13); of several the least.");
        for (int which = 0; which < MADE; which++) {
            MeanSafe x = made(which);
            int worst = 0;
            for (int k = 1; k < 100; k++) {
                if (orNever(x.needs(k)) > orNever(x.needs(worst))) worst = k;
            }
            Edges.due(worst, x.worst(0));
            Edges.due(orNever(x.needs(worst)), x.worst(1));
        }
        Edges.due(1, Edges.one(STILL, 0, 0).worst(0));
        Edges.due(0, Edges.one(STILL, 99, 0).worst(0), new MeanSafe().worst(0));
        Edges.due(13, Edges.one(STILL, 0, 0).worst(1), new MeanSafe().worst(1));
        // one who comes nearer by one each try: 12 tries for 11, and none for 12
        MeanSafe x = Edges.one(HALF, 0, 0);
        Edges.law(x, "set d+1");
        Edges.due(12, x.worst(0), x.needs(11));
        Edges.due(13, x.worst(1));
        // 33, 55, 70, 80, 87, 91, 94, 96, 97, 98, 99: the last NUMBER is the worst
        x = Edges.one(HALF, 33, 0);
        Edges.law(x, "set l+(h-l)/3");
        Edges.due(99, x.worst(0));
        Edges.due(11, x.worst(1));

        Edges.sentence("what 0 the NUMBER, 1 NEEDS (13: never). BAD.");
        Edges.range(0, 1, (o, v) -> o.worst(v));
        x.safe(4, 1);
        Edges.due(0, x.worst(0), x.worst(1));
    }

    private static void had() {
        Edges.sentence("HAD with b BOLTS: how many NUMBERS need b at most.");
        for (int which = 0; which < MADE; which++) {
            MeanSafe x = made(which);
            for (int b = 0; b <= 12; b++) {
                int many = 0;
                for (int k = 0; k < 100; k++) many += orNever(x.needs(k)) <= b ? 1 : 0;
                Edges.due(many, made(which).had(b));
            }
        }
        MeanSafe x = Edges.one(STILL, 50, 0);
        x.safe(2, 1);
        for (int b = 0; b <= 12; b++) Edges.due(b, x.had(b));

        Edges.sentence("HAD with b (0 .. 12). BAD.");
        Edges.range(0, 12, (o, v) -> o.had(v));
        Edges.due(0, x.had(0), new MeanSafe().had(0), new MeanSafe().had(12));
        x.safe(4, 1);
        Edges.due(100, x.had(0), x.had(12));
    }

    private static void start() {
        Edges.sentence("START of one: the DIAL 0, 10, .. 90 with which NEEDS of all NUMBERS, together (13 for one that is never), are least;"
            + " of several the least.");
        for (int which = 0; which < MADE - 1; which++) {
            MeanSafe x = made(which);
            int one = x.count(0) - 1;
            int best = -1;
            int least = 0;
            for (int dial = 0; dial <= 90; dial += 10) {
                MeanSafe y = made(which);
                y.set(one, 1, dial);
                int sum = together(y);
                if (best < 0 || sum < least) {
                    best = dial;
                    least = sum;
                }
            }
            Edges.due(best, x.start(one, 0));
            Edges.due(least, x.start(one, 1));
        }
        Edges.due(0, Edges.one(STILL, 50, 0).start(0, 0));
        Edges.due(99 * 13 + 1, Edges.one(STILL, 50, 0).start(0, 1));
        // the middle of 0, of this one and of one who halves: the further up, the more are had
        MeanSafe x = Edges.people(STILL, 0, 5);
        x.person(HALF, 49, 1);
        x.safe(1, 1);
        Edges.due(90, x.start(1, 0));

        Edges.sentence("START of one: what 0 the DIAL, 1 NEEDS of all, together. BAD.");
        Edges.range(0, 6, (o, v) -> o.start(v, 0));
        Edges.range(0, 1, (o, v) -> o.start(0, v));
        x = Edges.people(HALF, 50, 60);
        x.safe(4, 1);
        Edges.due(0, x.start(1, 0), x.start(1, 1));
        Edges.due(BAD, new MeanSafe().start(0, 0));
    }

    private static void tells() {
        Edges.sentence("the one who, if all others did not HEAR and this one did, leaves NEEDS of all NUMBERS, together, least;"
            + " of several the least.");
        for (int which = 0; which < MADE - 1; which++) {
            MeanSafe x = made(which);
            int best = -1;
            int least = 0;
            for (int one = 0; one < x.count(0); one++) {
                MeanSafe y = made(which);
                for (int i = 0; i < y.count(0); i++) y.set(i, 6, i == one ? 1 : 0);
                int sum = together(y);
                if (best < 0 || sum < least) {
                    best = one;
                    least = sum;
                }
            }
            Edges.due(best, x.tells(0));
            Edges.due(least, x.tells(1));
        }
        MeanSafe x = Edges.people(STILL, 0, 0, 0, 0, 0, 0, 0);
        x.person(HALF, 49, 1);
        x.safe(1, 2);
        for (int hears = 0; hears < 2; hears++) {
            x.set(7, 6, hears);
            Edges.due(7, x.tells(0));
            Edges.due(580, x.tells(1));
        }
        for (int one = 0; one < 8; one++) x.turns(one, STILL);
        Edges.due(0, x.tells(0));
        Edges.due(99 * 13 + 1, x.tells(1));

        Edges.sentence("TELLS: what 0 the one, 1 NEEDS of all, together. BAD; NONE: there is nobody.");
        Edges.range(0, 1, (o, v) -> o.tells(v));
        x.safe(4, 1);
        Edges.due(0, x.tells(0), x.tells(1));
        x = new MeanSafe();
        Edges.due(NONE, x.tells(0), x.tells(1));
        Edges.due(BAD, x.tells(-1), x.tells(2));
        x.safe(4, 1);
        Edges.due(NONE, x.tells(0), x.tells(1));
    }

    private static void keeps() {
        Edges.sentence("KEEPS of one: NEEDS of NUMBER as it is, if that one were a FOE, less NEEDS as it is (each 13, if never).");
        for (int which = 0; which < MADE - 1; which++) {
            for (int one = 0; one < made(which).count(0); one++) {
                for (int number = 0; number < 100; number += 7) {
                    MeanSafe x = made(which);
                    x.safe(0, number);
                    int asItIs = orNever(x.needs(number));
                    int keeps = x.keeps(one);
                    x.turns(one, FOE);
                    Edges.due(orNever(x.needs(number)) - asItIs, keeps);
                }
            }
        }
        Edges.due(13 - 7, Edges.one(HALF, 49, 99).keeps(0));
        Edges.due(13 - 2, Edges.one(HALF, 49, 24).keeps(0));
        Edges.due(0, Edges.one(HALF, 49, 49).keeps(0), Edges.one(STILL, 50, 0).keeps(0), Edges.one(FOE, 0, 99).keeps(0));
        MeanSafe x = Edges.one(STILL, 50, 99);
        Edges.law(x, "set 10");
        Edges.due(2 - 13, x.keeps(0));

        Edges.sentence("KEEPS of one. BAD.");
        Edges.range(0, 6, (o, v) -> o.keeps(v));
        Edges.due(BAD, new MeanSafe().keeps(0));
        x.safe(4, 1);
        Edges.due(0, x.keeps(0));
    }

    private static void behind() {
        Edges.sentence("BEHIND n TRIES: what it SAYS; DIAL of one; NUMBER; whether it is OPEN.");
        for (int which = 0; which < MADE - 1; which++) {
            for (int n : new int[] {0, 1, 2, 5, 99, 100}) {
                MeanSafe x = made(which);
                x.safe(3, n == 5 ? 3 : 99);
                int one = x.count(0) - 1;
                int[] behind = {x.behind(one, n, 0), x.behind(one, n, 1), x.behind(one, n, 2), x.behind(one, n, 3)};
                if (n > 0) x.tries(n);
                Edges.due(behind[0], x.says());
                Edges.due(behind[1], x.told(one, 1));
                Edges.due(behind[2], x.count(2));
                Edges.due(behind[3], x.count(6));
            }
        }

        Edges.sentence("BEHIND n (0 .. 100) TRIES of one:");
        Edges.range(0, 6, (o, v) -> o.behind(v, 1, 0));
        Edges.range(0, 100, (o, v) -> o.behind(0, v, 0));
        Edges.range(0, 3, (o, v) -> o.behind(0, 1, v));
        Edges.due(BAD, new MeanSafe().behind(0, 0, 0));
        // 2 tries open it; with one bolt it stays shut, with none nothing moves
        MeanSafe x = Edges.one(HALF, 49, 24);
        Edges.due(0, x.behind(0, 0, 3), x.behind(0, 1, 3));
        Edges.due(1, x.behind(0, 2, 3), x.behind(0, 100, 3));
        x.safe(3, 1);
        Edges.due(0, x.behind(0, 2, 3), x.behind(0, 100, 3));
        Edges.due(24, x.behind(0, 1, 0), x.behind(0, 100, 0), x.behind(0, 100, 1));
        x.safe(3, 0);
        Edges.due(49, x.behind(0, 1, 0), x.behind(0, 100, 1));
        x.safe(3, 99);
        x.safe(4, 1);
        x.safe(2, 5);
        Edges.due(49, x.behind(0, 1, 0), x.behind(0, 100, 1));
        Edges.due(24, x.behind(0, 100, 2));
        Edges.due(1, x.behind(0, 0, 3), x.behind(0, 100, 3));
        // 99 bolts bound 100 tries
        x = Edges.one(STILL, 50, 51);
        x.safe(2, 5);
        Edges.due((51 + 99 * 5) % 100, x.behind(0, 99, 2), x.behind(0, 100, 2));
    }

    private static void left() {
        Edges.sentence("of NUMBERS 0 .. 99 how many there are with which the answers of its TRIES from now on are places 0, 1, .. of it"
            + " that are numbers");
        for (int which = 0; which < MADE - 1; which++) {
            for (int from = 0; from < 100; from += 9) {
                int[] answers = answers(made(which), from, 8);
                int[] some = answers.clone();
                some[from % 8] = NONE;
                some[(from + 3) % 8] = NONE;
                for (int[] told : new int[][] {answers, some}) {
                    int many = 0;
                    int least = NONE;
                    for (int k = 99; k >= 0; k--) {
                        if (fits(told, answers(made(which), k, 8))) {
                            many++;
                            least = k;
                        }
                    }
                    MeanSafe x = made(which);
                    Edges.sheet(x, 2, 1, told);
                    Edges.due(many, x.left(2, 0));
                    Edges.due(least, x.left(2, 1));
                }
            }
        }
    }

    private static int[] answers(MeanSafe x, int number, int n) {
        x.safe(0, number);
        int[] all = new int[n];
        for (int i = 0; i < n; i++) {
            int said = x.says();
            int sought = x.count(2);
            x.tries(1);
            all[i] = x.count(6) == 1 ? 0 : said > sought ? 1 : -1;
        }
        return all;
    }

    private static boolean fits(int[] told, int[] answers) {
        for (int i = 0; i < told.length; i++) {
            if (told[i] != NONE && told[i] != answers[i]) return false;
        }
        return true;
    }

    private static void leftBy(MeanSafe x, int many, int least, int... answers) {
        Edges.sheet(x, 0, 1, answers);
        Edges.due(many, x.left(0, 0));
        Edges.due(least, x.left(0, 1));
    }

    private static void leftAtEdges() {
        Edges.sentence("(1: it SAYS too much; -1: too little; 0: OPEN, and behind that 0 all along; without PEOPLE none is left);"
            + " and the least of them.");
        MeanSafe x = Edges.one(HALF, 49, 0);
        leftBy(x, 49, 0, 1);
        leftBy(x, 50, 50, -1);
        leftBy(x, 1, 49, 0);
        leftBy(x, 1, 49, 0, 0, 0);
        leftBy(x, 0, NONE, 0, 1);
        leftBy(x, 0, NONE, 0, 0, -1);
        leftBy(x, 0, NONE, 2);
        leftBy(x, 0, NONE, -2);
        leftBy(x, 0, NONE, 99999);
        leftBy(x, 100, 0);
        leftBy(x, 100, 0, NONE, NONE);
        leftBy(x, 3, 24, NONE, 0);
        x.sheet(0, 0, 24);
        Edges.due(1, x.left(0, 0));
        Edges.due(49, x.left(0, 1));
        x.mark(0, 23, 1);
        Edges.due(0, x.left(0, 0));
        Edges.due(NONE, x.left(0, 1));
        // 24 answers of one who does not move, and one that drifts round
        x = Edges.one(STILL, 50, 0);
        int[] ones = new int[24];
        java.util.Arrays.fill(ones, 1);
        leftBy(x, 50, 0, ones);
        java.util.Arrays.fill(ones, -1);
        leftBy(x, 49, 51, ones);
        x.safe(2, 5);
        leftBy(x, 5, 95, -1, 1);
        leftBy(x, 5, 95, -1, 1, 1, 1, 1, 1, 1, 1, 1, 1, 1);
        leftBy(x, 1, 95, -1, 1, 1, 1, 1, 1, 1, 1, 1, 1, 1, 0, 0);
        // OPEN now
        x.safe(4, 1);
        leftBy(x, 100, 0, 0, 0, 0);
        leftBy(x, 0, NONE, 0, 0, 1);
        leftBy(x, 100, 0);
        // nobody
        x = new MeanSafe();
        leftBy(x, 0, NONE);
        leftBy(x, 0, NONE, NONE);
        leftBy(x, 0, NONE, 0);
        leftBy(x, 0, NONE, -1);
        x.safe(4, 1);
        leftBy(x, 0, NONE, 0);

        Edges.sentence("LEFT by a SHEET: what 0 how many, 1 the least (NONE). BAD; NOTHING.");
        Edges.range(0, 3, (o, v) -> o.left(v, 0));
        Edges.range(0, 1, (o, v) -> o.left(0, v));
        Edges.refused(NOTHING, o -> o.left(2, 0));
        Edges.refused(NOTHING, o -> o.left(2, 1));
        Edges.refused(BAD, o -> o.left(2, 2));
        Edges.refused(BAD, o -> o.left(2, -1));
        Edges.due(NOTHING, new MeanSafe().left(0, 0));
    }

    private static void feeAndFine() {
        Edges.sentence("(what fee gives is told by fee(); without a TEXT: TRIES)");
        MeanSafe x = Edges.one(STILL, 50, 0);
        Edges.due(0, x.fee(), new MeanSafe().fee());
        x.tries(99);
        Edges.due(99, x.fee());
        Edges.law(x, "set 5");
        Edges.law(x, "fine 6");
        Edges.due(99, x.fee());
        Edges.law(x, "fee b*1000+t");
        Edges.due(99, x.fee());
        x.safe(3, 99);
        Edges.due(99099, x.fee());

        Edges.sentence("What fee gives.");
        // no bound holds it
        Edges.law(x, "fee 0-9999*9999");
        Edges.due(-99980001, x.fee());
        Edges.law(x, "fee 9999*9999");
        Edges.due(99980001, x.fee());
        Edges.law(x, "fee 1");
        Edges.due(1, x.fee());

        Edges.sentence("(what fine gives for one of PEOPLE is told by fine(); without a TEXT: WEIGHT)");
        x = new MeanSafe();
        x.person(STILL, 0, 1);
        x.person(TELLER, 99, 9);
        Edges.law(x, "set 5");
        Edges.law(x, "fee 6");
        Edges.due(1, x.fine(0));
        Edges.due(9, x.fine(1));
        Edges.law(x, "fine d*1000-w");
        Edges.due(-1, x.fine(0));
        Edges.due(98991, x.fine(1));
        x = Edges.people(HALF, 50);
        Edges.law(x, "fine d");
        Edges.due(50, x.fine(0));

        Edges.sentence("What fine gives for one. BAD.");
        Edges.range(0, 6, (o, v) -> o.fine(v));
        Edges.due(BAD, x.fine(1), x.fine(-1), new MeanSafe().fine(0));
    }
}
