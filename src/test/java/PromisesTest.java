/** For each promise: ordinary inputs, the edges that the document names, wrong inputs. */
public final class PromisesTest {
    private static final int BAD = MeanSafe.BAD, NO = MeanSafe.NO, FULL = MeanSafe.FULL, NONE = MeanSafe.NONE,
            NOTHING = MeanSafe.NOTHING, KIND = MeanSafe.KIND, INDEX = MeanSafe.INDEX, SIZE = MeanSafe.SIZE;
    private static final int HALF = 0, SLOW = 1, TELLER = 2, STILL = 3, SHOUTER = 4, FOE = 5;
    private static final int MIN = Integer.MIN_VALUE, MAX = Integer.MAX_VALUE;

    private static int wrong = 0;
    private static int promise = 0;
    private static int asked = 0;

    private static void due(int got, int want) {
        asked++;
        if (got != want) {
            wrong++;
            StackTraceElement at = Thread.currentThread().getStackTrace()[2];
            System.out.println("promise " + promise + ", line " + at.getLineNumber() + ": answered " + got + ", due is " + want);
        }
    }

    private static void all(int want, int... got) {
        for (int g : got) {
            asked++;
            if (g != want) {
                wrong++;
                StackTraceElement at = Thread.currentThread().getStackTrace()[2];
                System.out.println("promise " + promise + ", line " + at.getLineNumber() + ": answered " + g + ", due is " + want);
            }
        }
    }

    /** Puts a text on the tape, in twelves, and cuts what is too much. */
    private static int type(MeanSafe x, String s) {
        int before = x.count(10);
        String padded = s + "            ";
        for (int i = 0; i < s.length(); i += 12) {
            x.feed(four(padded, i), four(padded, i + 4), four(padded, i + 8));
        }
        return x.trim(before + s.length());
    }

    private static int four(String s, int at) {
        return s.charAt(at) << 24 | s.charAt(at + 1) << 16 | s.charAt(at + 2) << 8 | s.charAt(at + 3);
    }

    private static int law(MeanSafe x, String s) {
        type(x, s);
        return x.text();
    }

    /** What an expression gives as a fee, with 3 tries and 90 bolts. */
    private static int gives(String e) {
        MeanSafe x = still(50);
        x.safe(3, 93);
        x.tries(3);
        int t = law(x, "fee " + e);
        return t < 0 ? t : x.fee();
    }

    private static MeanSafe still(int dial) {
        MeanSafe x = new MeanSafe();
        x.person(STILL, dial, 1);
        return x;
    }

    private static MeanSafe half(int dial, int number) {
        MeanSafe x = new MeanSafe();
        x.person(HALF, dial, 1);
        x.safe(0, number);
        return x;
    }

    private static MeanSafe sixKinds() {
        MeanSafe x = new MeanSafe();
        for (int k = 0; k < 6; k++) {
            x.person(k, 10 * k + 5, k + 1);
            x.set(k, 3, 6);
        }
        return x;
    }

    private static void row(MeanSafe x, int sheet, int sort, int... v) {
        x.sheet(sheet, sort, v.length);
        for (int i = 0; i < v.length; i++) x.mark(sheet, i, v[i]);
    }

    private static void tellAll(MeanSafe x, int... v) {
        for (int i : v) x.tell(i);
    }

    public static void main(String[] args) {
        people();
        theSafe();
        thoughts();
        laws();
        faults();
        sheets();
        slots();
        rowsAndImages();
        System.out.println(wrong == 0 ? "all " + asked + " answers are as due" : wrong + " answers are not as due");
        if (wrong != 0) System.exit(1);
    }

    private static void people() {
        promise = 1;
        MeanSafe x = new MeanSafe();
        int[] first = {0, 0, 0, 0, 0, 99, 0, 0, 0, 0, 0, 1};
        for (int i = 0; i < first.length; i++) due(x.count(i), first[i]);
        due(x.says(), -1);
        for (int i = 0; i < 4; i++) due(x.pour(i), NOTHING);
        for (int i = 0; i < 5; i++) due(x.rest(i, 1), NOTHING);
        for (int i = 0; i < 3; i++) due(x.why(i), NONE);
        due(x.back(), NO);

        promise = 2;
        all(BAD, x.person(-1, 0, 1), x.person(6, 0, 1), x.person(0, -1, 1), x.person(0, 100, 1), x.person(0, 0, 0),
            x.person(0, 0, 10), x.person(MIN, MIN, MIN), x.person(MAX, MAX, MAX));
        due(x.count(0), 0);
        for (int i = 0; i < 8; i++) due(x.person(i % 6, i == 0 ? 0 : 99, i == 0 ? 1 : 9), i);
        due(x.person(0, 5, 5), FULL);
        due(x.person(0, 5, 10), BAD);
        due(x.count(0), 8);

        promise = 3;
        x = sixKinds();
        int[] setting = {49, 32, 55, 35, 61, 99};
        int[] worth = {1, 12, 44, 28, 41, 1};
        for (int k = 0; k < 6; k++) {
            int[] row = {k, 10 * k + 5, k + 1, 6, 0, 99, 1, setting[k], worth[k]};
            for (int what = 0; what < 9; what++) due(x.told(k, what), row[what]);
        }
        all(BAD, x.told(-1, 0), x.told(6, 0), x.told(0, -1), x.told(0, 9), x.told(MIN, 0), x.told(0, MAX));
        // a shouter is held within 0 .. 99 after the first bias and again after the second
        x = new MeanSafe();
        x.person(SHOUTER, 5, 1);
        law(x, "set 95");
        x.set(0, 3, 20);
        due(x.told(0, 7), 99);
        x.set(0, 3, -20);
        due(x.told(0, 7), 55);
        law(x, "set 10-l");
        due(x.told(0, 7), 0);
        // a foe turns at 50
        x = half(0, 0);
        x.turns(0, FOE);
        law(x, "set 49");
        due(x.told(0, 7), 99);
        law(x, "set 50");
        due(x.told(0, 7), 0);

        promise = 4;
        x = sixKinds();
        String[] under = {"012345", "13", "24", "3", "4", "5"};
        for (int k = 0; k < 6; k++) {
            for (int one = 0; one < 6; one++) due(x.as(one, k), under[k].indexOf('0' + one) >= 0 ? 10 * one + 5 : KIND);
        }
        all(BAD, x.as(-1, 0), x.as(6, 0), x.as(0, -1), x.as(0, 6));

        promise = 5;
        due(x.turns(3, FOE), 3);
        due(x.turns(3, SLOW), 5);
        due(x.told(3, 0), SLOW);
        due(x.told(3, 1), 35);
        all(BAD, x.turns(6, 0), x.turns(-1, 0), x.turns(0, 6), x.turns(0, -1));

        promise = 6;
        due(x.set(0, 1, 99), 5);
        due(x.set(0, 1, 0), 99);
        due(x.set(0, 2, 9), 1);
        due(x.set(0, 3, -20), 6);
        due(x.set(0, 3, 20), -20);
        due(x.set(0, 6, 0), 1);
        due(x.set(0, 6, 0), 0);
        all(BAD, x.set(-1, 1, 1), x.set(6, 1, 1), x.set(0, 0, 1), x.set(0, 4, 1), x.set(0, 5, 1), x.set(0, 7, 1),
            x.set(0, 1, -1), x.set(0, 1, 100), x.set(0, 2, 0), x.set(0, 2, 10), x.set(0, 3, -21), x.set(0, 3, 21),
            x.set(0, 6, -1), x.set(0, 6, 2));
        int[] row = {0, 0, 9, 20, 0, 99, 0};
        for (int what = 0; what < 7; what++) due(x.told(0, what), row[what]);

        promise = 7;
        x = sixKinds();
        x.safe(0, 98);
        x.set(2, 6, 0);
        due(x.forget(), 0);
        x.tries(1);
        due(x.told(0, 4), 39);
        due(x.forget(), 5);
        for (int i = 0; i < 6; i++) {
            due(x.told(i, 4), 0);
            due(x.told(i, 5), 99);
        }
        due(x.forget(), 0);

        promise = 8;
        x = new MeanSafe();
        all(BAD, x.deal(0), x.deal(9), x.deal(-1), x.deal(MIN), x.deal(MAX));
        due(x.count(11), 1);
        due(x.deal(2), 2);
        // the draws, worked out anew
        int z = 1;
        int[] drawn = new int[8];
        for (int i = 0; i < 8; i++) {
            z = z * 1103515245 + 12345;
            drawn[i] = z >>> 8;
        }
        for (int i = 0; i < 2; i++) {
            due(x.told(i, 0), drawn[4 * i] % 6);
            due(x.told(i, 1), drawn[4 * i + 1] % 100);
            due(x.told(i, 2), 1 + drawn[4 * i + 2] % 5);
            due(x.told(i, 3), drawn[4 * i + 3] % 21 - 10);
            due(x.told(i, 4), 0);
            due(x.told(i, 5), 99);
            due(x.told(i, 6), 1);
        }
        due(x.count(11), z);
        due(x.deal(8), 6);
        int full = x.count(11);
        due(x.deal(3), 0);
        due(x.count(11), full);

        promise = 9;
        due(x.seed(MIN), full);
        due(x.seed(MAX), MIN);
        due(x.seed(0), MAX);
        due(x.count(11), 0);
    }

    private static void theSafe() {
        promise = 10;
        MeanSafe x = new MeanSafe();
        int[][] good = {{0, 99, 0}, {0, 2}, {5, -5, 0}, {0, 99}, {1, 0}};
        int[] was = {0, 0, 0, 99, 0};
        for (int what = 0; what < 5; what++) {
            for (int v : good[what]) {
                due(x.safe(what, v), was[what]);
                was[what] = v;
                due(x.count(what + 2), v);
            }
        }
        all(BAD, x.safe(-1, 0), x.safe(5, 0), x.safe(0, -1), x.safe(0, 100), x.safe(1, -1), x.safe(1, 3), x.safe(2, -6),
            x.safe(2, 6), x.safe(3, -1), x.safe(3, 100), x.safe(4, -1), x.safe(4, 2), x.safe(MIN, MIN));
        for (int what = 0; what < 5; what++) due(x.count(what + 2), was[what]);

        promise = 11;
        x = new MeanSafe();
        x.person(HALF, 10, 3);
        x.person(HALF, 99, 1);
        x.person(HALF, 40, 2);
        due(x.says(), 34);
        x.safe(1, 1);
        due(x.says(), 40);
        x.set(0, 2, 4);
        due(x.says(), 10);
        x.set(1, 2, 9);
        due(x.says(), 99);
        x.set(1, 2, 1);
        x.safe(1, 2);
        due(x.says(), 99);
        x = still(0);
        for (int law = 0; law < 3; law++) {
            x.safe(1, law);
            due(x.says(), 0);
        }

        promise = 12;
        x = new MeanSafe();
        due(x.tries(5), 0);
        all(BAD, x.tries(0), x.tries(101), x.tries(-1), x.tries(MIN));
        x = half(49, 24);
        x.safe(2, 5);
        x.safe(3, 3);
        x.person(STILL, 49, 1);
        x.set(1, 6, 0);
        due(x.tries(1), 1);
        due(x.told(0, 5), 48);
        due(x.told(1, 5), 99);
        due(x.told(0, 1), 24);
        due(x.told(1, 1), 49);
        due(x.count(1), 1);
        due(x.count(2), 29);
        due(x.count(5), 2);
        due(x.tries(100), 2);
        due(x.count(5), 0);
        due(x.count(1), 3);
        // it opens: no drift, no beliefs, and no try more
        x = half(49, 49);
        x.safe(2, 5);
        due(x.tries(100), 1);
        due(x.count(2), 49);
        due(x.count(5), 98);
        due(x.count(6), 1);
        due(x.told(0, 5), 99);
        // round from 99 to 0, and back
        x = still(50);
        x.safe(0, 97);
        x.safe(2, 5);
        x.tries(1);
        due(x.count(2), 2);
        x.safe(2, -5);
        x.tries(1);
        due(x.count(2), 97);
        // low above high: all of it
        x = still(50);
        x.safe(0, 60);
        x.tries(1);
        due(x.told(0, 4), 51);
        x.safe(0, 40);
        x.tries(1);
        due(x.told(0, 4), 0);
        due(x.told(0, 5), 99);
        // 9999 at most
        x = still(50);
        for (int i = 0; i < 100; i++) {
            x.safe(3, 99);
            due(x.tries(100), 99);
        }
        x.safe(3, 99);
        due(x.tries(90), 90);
        x.safe(3, 99);
        due(x.tries(10), 9);
        due(x.count(1), 9999);
        due(x.count(5), 90);
        due(x.tries(100), 0);
    }

    private static void thoughts() {
        promise = 13;
        MeanSafe x = half(49, 0);
        due(x.needs(49), 1);
        due(x.needs(24), 2);
        due(x.needs(74), 2);
        due(x.needs(0), 6);
        due(x.needs(99), 7);
        all(BAD, x.needs(-1), x.needs(100), x.needs(MIN), x.needs(MAX));
        x.safe(3, 0);
        due(x.needs(99), 7);
        due(x.count(5), 0);
        due(x.count(2), 0);
        due(x.told(0, 1), 49);
        x = still(50);
        due(x.needs(49), NONE);
        x.safe(2, 1);
        due(x.needs(50), 1);
        due(x.needs(39), 12);
        due(x.needs(38), NONE);
        due(x.needs(51), NONE);
        x.safe(4, 1);
        due(x.needs(38), 0);

        promise = 14;
        x = half(49, 0);
        due(x.worst(1), 7);
        x = still(0);
        due(x.worst(0), 1);
        due(x.worst(1), 13);
        x.safe(4, 1);
        due(x.worst(0), 0);
        due(x.worst(1), 0);
        all(BAD, x.worst(-1), x.worst(2), x.worst(MIN));
        x = new MeanSafe();
        due(x.worst(0), 0);
        due(x.worst(1), 13);

        promise = 15;
        x = half(49, 0);
        int[] had = {0, 1, 3, 7, 15, 31, 63, 100, 100, 100, 100, 100, 100};
        for (int b = 0; b < 13; b++) due(x.had(b), had[b]);
        x.safe(3, 0);
        due(x.had(7), 100);
        all(BAD, x.had(-1), x.had(13), x.had(MAX));
        x.safe(4, 1);
        due(x.had(0), 100);
        due(new MeanSafe().had(12), 0);

        promise = 16;
        x = still(50);
        due(x.start(0, 0), 0);
        due(x.start(0, 1), 1288);
        all(BAD, x.start(-1, 0), x.start(1, 0), x.start(0, -1), x.start(0, 2), new MeanSafe().start(0, 0));
        x = new MeanSafe();
        x.person(STILL, 0, 1);
        x.person(HALF, 49, 1);
        x.safe(1, 2);
        due(x.start(1, 0), 40);
        due(x.start(1, 1), 580);
        due(x.told(1, 1), 49);

        promise = 17;
        due(x.tells(0), 1);
        due(x.tells(1), 580);
        due(x.count(7), 3);
        all(BAD, x.tells(-1), x.tells(2), new MeanSafe().tells(2));
        all(NONE, new MeanSafe().tells(0), new MeanSafe().tells(1));
        x.turns(1, STILL);
        due(x.tells(0), 0);
        due(x.tells(1), 1288);
        // one who does not hear now is thought of as hearing
        x = half(49, 0);
        x.set(0, 6, 0);
        due(x.tells(1), 580);
        due(x.count(7), 0);

        promise = 18;
        x = half(49, 24);
        due(x.keeps(0), 11);
        due(x.told(0, 0), HALF);
        x.safe(3, 0);
        due(x.keeps(0), 11);
        x.safe(0, 49);
        due(x.keeps(0), 0);
        all(BAD, x.keeps(-1), x.keeps(1), x.keeps(MAX), new MeanSafe().keeps(0));
        x = half(49, 99);
        due(x.keeps(0), 13 - 7);
        // a foe who helps: less than nothing
        x = still(50);
        x.safe(0, 99);
        due(x.keeps(0), 0);
        law(x, "set 99-d");
        due(x.keeps(0), 2 - 13);

        promise = 19;
        x = half(49, 24);
        int[][] by = {{49, 49, 24, 0}, {24, 24, 27, 0}, {36, 36, 30, 0}};
        x.safe(2, 3);
        for (int n = 0; n < 3; n++) for (int what = 0; what < 4; what++) due(x.behind(0, n, what), by[n][what]);
        due(x.count(1), 0);
        x.safe(2, 0);
        due(x.behind(0, 1, 3), 0);
        due(x.behind(0, 2, 3), 1);
        due(x.behind(0, 100, 3), 1);
        x.safe(3, 1);
        due(x.behind(0, 100, 3), 0);
        due(x.behind(0, 100, 1), 24);
        all(BAD, x.behind(-1, 0, 0), x.behind(1, 0, 0), x.behind(0, -1, 0), x.behind(0, 101, 0), x.behind(0, 0, -1),
            x.behind(0, 0, 4), new MeanSafe().behind(0, 0, 0));

        promise = 20;
        x = half(49, 0);
        due(x.left(0, 0), NOTHING);
        row(x, 0, 0, -1, -1, 0);
        due(x.left(0, 0), 1);
        due(x.left(0, 1), 87);
        row(x, 0, 0, 1);
        due(x.left(0, 0), 49);
        due(x.left(0, 1), 0);
        row(x, 0, 0, -1);
        due(x.left(0, 0), 50);
        due(x.left(0, 1), 50);
        row(x, 0, 0, 0, 1);
        due(x.left(0, 0), 0);
        due(x.left(0, 1), NONE);
        row(x, 0, 0, 2);
        due(x.left(0, 0), 0);
        row(x, 0, 1, NONE, 1, NONE);
        due(x.left(0, 0), 24 + 24);
        due(x.left(0, 1), 0);
        row(x, 0, 1);
        due(x.left(0, 0), 100);
        x.safe(3, 0);
        row(x, 0, 1, 1, 1);
        due(x.left(0, 0), 24);
        x.safe(4, 1);
        due(x.left(0, 0), 0);
        row(x, 0, 1, 0, 0, 0);
        due(x.left(0, 0), 100);
        due(x.left(0, 1), 0);
        all(BAD, x.left(-1, 0), x.left(4, 0), x.left(0, -1), x.left(0, 2), x.left(1, 2));
        x = new MeanSafe();
        row(x, 0, 0);
        due(x.left(0, 0), 0);
        due(x.left(0, 1), NONE);
    }

    private static void laws() {
        promise = 21;
        MeanSafe x = half(49, 99);
        due(x.fee(), 0);
        x.tries(4);
        due(x.fee(), 4);
        due(law(x, "fee t*100+b"), 0);
        due(x.fee(), 495);
        due(law(x, "fee 7"), 1);
        due(x.fee(), 7);
        String[] e = {"1+2*3", "(1+2)*3", "7/2", "0-7/2", "(0-7)/2", "5/0", "5/(t-3)", "10-3-2", "2-3", "100/7/2", "2*7/4",
            "!0", "!5", "!!5", "!t+1", "!(t=3)", "1<2", "2<1", "2>1", "2=2", "1+1=2", "5&0", "5&7", "0|0", "0|9",
            "1|0&0", "(1|0)&0", "1<2&2<3", "1<2|3", "3=3=1", "9999*9999*9999", "0009", "t", "b", "t=3&b=90", "1 < 2", "3-(2-1)",
            "!0*5", "0=0<1", "(0=0)<1", "!!!!!!!!1", "((((((((8))))))))", "9999*9999*99/(0-1)", "t/b", "b/t", "t-b"};
        int[] v = {7, 9, 3, -3, -3, 0, 0, 5, -1, 7, 3,
            1, 0, 1, 1, 0, 1, 0, 1, 1, 1, 0, 1, 0, 1,
            1, 0, 1, 1, -107, 9999 * 9999 * 9999, 9, 3, 90, 1, 1, 2,
            5, -107, 0, 1, 8, 9999 * 9999 * 99 / -1, 0, 30, -87};
        for (int i = 0; i < e.length; i++) due(gives(e[i]), v[i]);

        promise = 22;
        x = new MeanSafe();
        x.person(HALF, 40, 7);
        due(x.fine(0), 7);
        law(x, "fine w*d");
        due(x.fine(0), 280);
        x.set(0, 1, 10);
        due(x.fine(0), 70);
        all(BAD, x.fine(-1), x.fine(1), x.fine(MIN), new MeanSafe().fine(0));
        // what set gives is held, and all kinds go by it
        x = sixKinds();
        law(x, "set l*0+h*2");
        due(x.told(0, 7), 99);
        due(x.told(1, 7), 57);
        due(x.told(5, 7), 0);
        law(x, "set d/2-l");
        due(x.told(0, 7), 2);
        due(x.told(4, 7), 34);
        x.safe(0, 99);
        x.tries(1);
        due(x.told(0, 1), 0);

        promise = 23;
        x = new MeanSafe();
        for (int i = 1; i <= 8; i++) due(x.feed(MIN, MAX, -1), 12 * i);
        due(x.feed(0, 0, 0), FULL);
        due(x.count(10), 96);
        due(x.trim(84), 84);
        due(x.feed(0, 0, 0), 96);
        x.trim(85);
        due(x.feed(0, 0, 0), FULL);
        due(x.count(10), 85);

        promise = 24;
        all(BAD, x.trim(-1), x.trim(86), x.trim(MIN), x.trim(MAX));
        due(x.count(10), 85);
        due(x.trim(85), 85);
        due(x.trim(3), 3);
        due(x.trim(4), BAD);
        due(x.trim(0), 0);
        due(x.count(10), 0);

        promise = 25;
        x = new MeanSafe();
        for (int i = 0; i < 14; i++) {
            due(law(x, "  fee  " + i + " "), i);
            due(x.count(10), 0);
        }
        due(law(x, "fee 77"), FULL);
        due(x.count(10), 0);
        due(x.fee(), 13);
        due(law(x, "fee 77 x"), -107);
        due(x.count(8), 14);

        promise = 26;
        x = new MeanSafe();
        law(x, "set l+h*(d-3)/!5");
        law(x, "fine w");
        law(x, "fee (t|b)&1");
        int[][] told = {{0, 5}, {2, 1}, {1, 3}};
        for (int t = 0; t < 3; t++) for (int what = 0; what < 2; what++) due(x.textTold(t, what), told[t][what]);
        all(BAD, x.textTold(-1, 0), x.textTold(3, 0), x.textTold(0, -1), x.textTold(0, 2), x.textTold(14, 0));

        promise = 27;
        due(x.why(0), 0);
        due(x.why(1), 2);
        due(x.why(2), 1);
        law(x, "fine 3");
        due(x.why(2), 3);
        all(BAD, x.why(-1), x.why(3), x.why(MIN));
        due(new MeanSafe().why(1), NONE);
    }

    private static void faults() {
        promise = 25;
        String[] s = {"", "   ", "s", "sett l", "Set l", "set", "set ", "set5", "set 5", "set(5)", "set!5", "fee5", " fee 12345", "fee 1234",
            "fee 00001", "fee t b", "fee tb", "fee t5", "fee 5t", "fee l", "set t", "set w", "fine l", "fine h", "fine b", "fee d",
            "fee (t", "fee t)", "fee ()", "fee +t", "fee t+", "fee t+ ", "fee t++b", "fee t<b<1", "fee (t<b<1)", "fee t<b=1", "fee t<b&1<2",
            "fee (t<b)<1", "fee !", "fee ! t", "fee t!", "fee t & & b", "fee t?", "fee t\u00ff", "fee\tt", "fee t ", "fee ((((((((1))))))))",
            "fee (((((((((1)))))))))", "fee !!!!!!!!1", "fee !!!!!!!!!1", "fee !!!!(!!!!1)+!!!!!!!!1", "fee !!!!(!!!!!1)",
            "fee !(!(!(!(!(!(!(!(1))))))))", "fee ((((1))))+((((((((1))))))))", "fee ((((1))))+(((((((((1", "fee fee 1", "fine", "fin 1", "fe", "12 3",
            "( set 1)", "fee 1 2", "fee 1(2)", "fee (1)2", "fee (1)(2)", "set h-l d", "fee 1-", "fee -1", "fee 123 4", "fee 1==2", "fee 1<>2", "fee 1=2=3&4",
            "fee t\0", "fee t\0b", "\0", "seta 1", "setz 1", "set0 1", "set9 1", "fee 1/9", "fee 1:2", "fee `", "fee {"};
        int[] fault = {0, 3, 0, 0, 0, 3, 4, 3, -1, -1, -1, 3, 5, -1,
            4, 6, 4, 5, 5, 4, 4, 4, 5, 5, 5, 4,
            6, 5, 5, 4, 6, 7, 6, 7, 8, 7, -1,
            -1, 5, -1, 5, 8, 5, 5, 3, -1, -1,
            12, -1, 12, -1, 13,
            -1, -1, 22, 4, 4, 0, 0, 0,
            0, 6, 5, 7, 7, 8, 6, 4, 8, 6, 6, 7,
            5, 5, 0, 0, 0, 3, 3, -1, 5, 4, 4};
        if (s.length != fault.length) {
            wrong++;
            System.out.println("faults: " + s.length + " texts, " + fault.length + " places");
            return;
        }
        for (int i = 0; i < s.length; i++) {
            int got = law(new MeanSafe(), s[i]);
            if (got != (fault[i] < 0 ? 0 : -100 - fault[i])) System.out.println("[" + s[i] + "]");
            due(got, fault[i] < 0 ? 0 : -100 - fault[i]);
        }
        // 96 bytes, whole
        StringBuilder longest = new StringBuilder("fee 1");
        while (longest.length() < 95) longest.append("+1");
        longest.append(' ');
        MeanSafe x = new MeanSafe();
        if (longest.length() != 96) wrong++;
        due(law(x, longest.toString()), 0);
        due(x.fee(), 46);
        due(x.textTold(0, 1), 46);
        // a text at fault is none
        x = new MeanSafe();
        law(x, "fee 5");
        law(x, "fee 5+");
        due(x.count(8), 1);
        due(x.count(10), 0);
        due(x.fee(), 5);
    }

    private static void sheets() {
        promise = 28;
        MeanSafe x = new MeanSafe();
        due(x.sheet(0, 0, 0), 0);
        due(x.mark(0, 0, 1), INDEX);
        due(x.sheet(0, 1, 24), 24);
        due(x.mark(0, 23, 7), 1);
        due(x.sheet(0, 0, 24), 24);
        x.lay(0, 2, 0);
        due(x.item(0, 23), 0);
        due(x.sheet(0, -1, 3), 0);
        due(x.pour(0), NOTHING);
        due(x.sheet(3, -1, 99), 0);
        due(x.sheet(3, -1, -99), 0);
        all(BAD, x.sheet(-1, 0, 1), x.sheet(4, 0, 1), x.sheet(0, -2, 1), x.sheet(0, 2, 1), x.sheet(0, 0, 25), x.sheet(0, 1, MAX),
            x.sheet(4, 0, -1), x.sheet(0, 2, -1));
        all(SIZE, x.sheet(0, 0, -1), x.sheet(0, 1, MIN));
        due(x.pour(0), NOTHING);

        promise = 29;
        all(BAD, x.mark(-1, 0, 0), x.mark(4, 0, 0), x.mark(MIN, MIN, MIN));
        due(x.mark(1, 0, 0), NOTHING);
        due(x.mark(1, -1, NONE), NOTHING);
        x.sheet(1, 0, 3);
        all(INDEX, x.mark(1, -1, 0), x.mark(1, 3, 0), x.mark(1, 3, NONE), x.mark(1, MAX, 0));
        due(x.mark(1, 0, NONE), KIND);
        int[] wide = {32767, 32768, 65535, 65536, -32769, MIN, MAX, 100000};
        int[] low = {32767, -32768, -1, 0, 32767, 0, -1, -31072};
        for (int i = 0; i < wide.length; i++) {
            due(x.mark(1, 2, wide[i]), 1);
            x.lay(1, 2, 1);
            due(x.item(1, 2), low[i]);
        }
        x.sheet(2, 1, 3);
        all(INDEX, x.mark(2, 3, 100000), x.mark(2, -1, NONE));
        all(BAD, x.mark(2, 0, 100000), x.mark(2, 0, -100000), x.mark(2, 0, MIN), x.mark(2, 0, MAX));
        all(1, x.mark(2, 0, 99999), x.mark(2, 1, -99999), x.mark(2, 2, NONE));
        x.lay(1, 2, 2);
        due(x.item(1, 0), 99999);
        due(x.item(1, 1), -99999);
        due(x.item(1, 2), KIND);

        promise = 30;
        x = sixKinds();
        all(BAD, x.pour(-1), x.pour(4));
        due(x.pour(0), NOTHING);
        row(x, 0, 1, 5, 500, NONE, -3);
        due(x.pour(0), 2);
        int[] dials = {5, 99, 25, 0, 45, 55};
        for (int i = 0; i < 6; i++) due(x.told(i, 1), dials[i]);
        due(x.pour(0), 0);
        x.sheet(0, 0, 24);
        due(x.pour(0), 5);
        x.sheet(0, 0, 0);
        due(x.pour(0), 0);

        promise = 31;
        x = half(49, 0);
        all(BAD, x.reads(-1), x.reads(4));
        due(x.reads(0), NOTHING);
        row(x, 0, 0, 6, 7, 5, 6, 7, 4);
        due(x.reads(0), NONE);
        x.mark(0, 5, 5);
        due(x.reads(0), 5);
        x.mark(0, 1, 0);
        due(x.reads(0), 1);
        row(x, 1, 1, NONE, 7, NONE);
        due(x.reads(1), NONE);
        x.turns(0, STILL);
        row(x, 2, 1, 13, 13, 12);
        due(x.reads(2), 2);
        x.safe(4, 1);
        due(x.reads(2), 0);
        x.sheet(2, 1, 24);
        due(x.reads(2), NONE);
        x.sheet(2, 1, 0);
        due(x.reads(2), NONE);

        promise = 32;
        x = new MeanSafe();
        row(x, 0, 0, 1, 2, 3, 4, 5);
        row(x, 1, 0, 9, 9, 9);
        row(x, 2, 1, 7, NONE);
        all(BAD, x.copy(-1, 0, 0, 0, 0), x.copy(4, 0, 0, 0, 0), x.copy(0, 0, -1, 0, 0), x.copy(0, 0, 4, 0, 0), x.copy(3, 0, 4, 0, 0));
        all(NOTHING, x.copy(3, 0, 0, 0, 0), x.copy(0, 0, 3, 0, 0), x.copy(3, -1, 3, 0, 0));
        all(KIND, x.copy(0, 0, 2, 0, 1), x.copy(2, 0, 0, 0, 1), x.copy(2, -1, 0, 0, 99));
        all(INDEX, x.copy(0, -1, 1, 0, 1), x.copy(0, 0, 1, -1, 1), x.copy(0, 0, 1, 0, -1), x.copy(0, 3, 1, 0, 3), x.copy(0, 0, 1, 1, 3),
            x.copy(0, 6, 1, 0, 0), x.copy(0, 0, 1, 4, 0), x.copy(0, MAX, 1, 0, MAX), x.copy(0, 0, 1, 0, MAX), x.copy(0, 1, 1, 1, MAX));
        due(x.copy(0, 5, 1, 3, 0), 0);
        due(x.copy(0, 3, 1, 1, 2), 2);
        rowIs(x, 1, 9, 4, 5);
        due(x.copy(0, 0, 0, 1, 4), 4);
        rowIs(x, 0, 1, 1, 2, 3, 4);
        due(x.copy(0, 1, 0, 0, 4), 4);
        rowIs(x, 0, 1, 2, 3, 4, 4);
        due(x.copy(2, 1, 2, 0, 1), 1);
        rowIs(x, 2, KIND, KIND);
    }

    private static void rowIs(MeanSafe x, int sheet, int... v) {
        x.lay(4, 2, sheet);
        for (int i = 0; i < v.length; i++) due(x.item(4, i), v[i]);
        due(x.item(4, v.length), INDEX);
    }

    private static void slots() {
        promise = 33;
        MeanSafe x = sixKinds();
        x.sheet(2, 0, 2);
        all(BAD, x.lay(-1, 0, 0), x.lay(5, 0, 0), x.lay(0, -1, 0), x.lay(0, 4, 0), x.lay(0, 1, 6), x.lay(0, 1, -1), x.lay(0, 2, 4), x.lay(0, 2, -1));
        all(NOTHING, x.lay(0, 2, 0), x.lay(0, 2, 3));
        due(x.lay(0, 3, MIN), 0);
        due(x.lay(0, 2, 3), NOTHING);
        due(x.lay(0, 2, 2), 3);
        due(x.lay(0, 1, 5), 2);
        due(x.lay(0, 0, MAX), 1);
        due(x.lay(0, 0, MIN), 0);
        x.lay(1, 2, 2);
        x.mark(2, 0, 8);
        due(x.item(1, 0), 0);
        x.sheet(2, -1, 0);
        due(x.item(1, 1), 0);

        promise = 34;
        all(BAD, x.ask(-1, 0), x.ask(5, 0), x.ask(0, -1), x.ask(0, 6));
        due(x.ask(0, 0), NOTHING);
        due(x.ask(1, 0), KIND);
        x.lay(2, 3, 1);
        due(x.ask(2, 0), KIND);
        int[] worth = {1, 12, 44, 28, 41, 1};
        String[] under = {"012345", "13", "24", "3", "4", "5"};
        for (int one = 0; one < 6; one++) {
            x.lay(3, 1, one);
            for (int k = 0; k < 6; k++) due(x.ask(3, k), under[k].indexOf('0' + one) >= 0 ? worth[one] : KIND);
        }
        // for good, as it was then
        x.lay(4, 1, 3);
        x.set(3, 2, 9);
        x.turns(3, TELLER);
        due(x.ask(4, SLOW), 28);
        due(x.ask(4, TELLER), KIND);

        promise = 35;
        all(BAD, x.item(-1, 0), x.item(5, 0));
        due(x.item(0, -1), NOTHING);
        all(KIND, x.item(2, 0), x.item(4, -1));
        all(INDEX, x.item(1, -1), x.item(1, 2), x.item(1, MAX), x.item(1, MIN));

        promise = 36;
        x.lay(2, 3, MIN);
        all(BAD, x.rest(-1, 0), x.rest(5, 0));
        due(x.rest(0, 0), NOTHING);
        all(KIND, x.rest(1, 0), x.rest(4, 0));
        due(x.rest(2, 0), NO);
        due(x.rest(2, -1), 0);
        due(x.rest(2, MIN), 0);
        due(x.rest(2, MAX), -1);
        due(x.rest(2, 10), -8);
        x.lay(2, 3, 17);
        due(x.rest(2, -5), 2);
    }

    private static void rowsAndImages() {
        promise = 37;
        MeanSafe x = half(49, 24);
        for (int i = 1; i <= 60; i++) due(x.tell(MIN), i);
        due(x.tell(0), FULL);
        due(x.count(9), 60);

        promise = 38;
        due(x.check(0), BAD);
        due(x.count(9), 0);
        x.tell(1);
        due(x.check(1), NO);
        due(x.count(9), 0);
        x.keep();
        all(BAD, x.check(31), x.check(-1), x.check(MIN));
        x.tries(5);
        tellAll(x, 24, 0, 24, 1, 24, 1);
        due(x.check(3), 0);
        due(x.count(9), 0);
        due(x.check(3), 1);
        tellAll(x, 24, 0, 24, 1, 24);
        due(x.check(3), 6);
        tellAll(x, 24, 0, 24, 1, 24, 1, 24);
        due(x.check(3), 7);
        tellAll(x, 24, 0, 24, 0, 24, 1);
        due(x.check(3), 4);
        tellAll(x, 49, 0);
        due(x.check(1), 1);
        for (int i = 0; i < 60; i++) x.tell(i == 1 ? 0 : i % 2 == 0 ? 24 : 1);
        due(x.check(30), 0);
        due(x.count(1), 2);
        // where nothing goes any more: no bolts, nobody
        x = half(49, 24);
        x.safe(3, 1);
        x.keep();
        tellAll(x, 24, 0, 24, 0);
        due(x.check(2), 0);
        x = new MeanSafe();
        x.keep();
        tellAll(x, -1, 0, -1, 0);
        due(x.check(2), 0);

        promise = 39;
        x = sixKinds();
        due(x.keep(), 6);
        due(new MeanSafe().keep(), 0);

        promise = 40;
        due(new MeanSafe().back(), NO);
        x.safe(0, 77);
        x.safe(1, 1);
        x.safe(2, -3);
        x.safe(3, 50);
        x.seed(42);
        law(x, "fee 5");
        law(x, "set 7");
        x.tries(2);
        x.set(1, 6, 0);
        due(x.keep(), 6);
        int[] kept = new int[12];
        for (int i = 0; i < 12; i++) kept[i] = x.count(i);
        int[][] ones = new int[6][9];
        for (int one = 0; one < 6; one++) for (int what = 0; what < 9; what++) ones[one][what] = x.told(one, what);
        for (int again = 0; again < 2; again++) {
            x.deal(2);
            x.seed(again);
            law(x, "fee 6");
            law(x, "set 8");
            for (int one = 0; one < 6; one++) {
                x.turns(one, (ones[one][0] + 1) % 6);
                x.set(one, 1, 3);
                x.set(one, 2, 8);
                x.set(one, 3, -1);
                x.set(one, 6, 1);
            }
            x.tries(3);
            x.forget();
            x.safe(0, 1);
            x.safe(1, 2);
            x.safe(2, 1);
            x.safe(3, 1);
            x.safe(4, 1);
            due(x.fee(), 6);
            due(x.why(0), 3);
            x.sheet(0, 0, 5);
            x.lay(0, 3, 5);
            x.feed(0, 0, 0);
            x.tell(1);
            due(x.back(), 6);
            // sheets, slots, numbers that wait and the tape are not in the image
            due(x.pour(0) >= 0 ? 1 : 0, 1);
            due(x.rest(0, 4), 1);
            due(x.count(9), 1);
            due(x.count(10), 12);
            x.trim(0);
            x.check(0);
            due(x.back(), 6);
            for (int i = 0; i < 12; i++) due(x.count(i), kept[i]);
            for (int one = 0; one < 6; one++) for (int what = 0; what < 9; what++) due(x.told(one, what), ones[one][what]);
            due(x.fee(), 5);
            due(x.why(0), 1);
            due(x.why(1), 0);
            due(x.textTold(2, 0), BAD);
        }

        promise = 41;
        x = sixKinds();
        x.set(0, 6, 0);
        x.set(3, 6, 0);
        due(x.count(7), 0b110110);
        law(x, "fee 1");
        x.tell(4);
        x.tell(4);
        x.feed(1, 2, 3);
        x.safe(0, 98);
        x.safe(1, 2);
        x.safe(2, 1);
        x.tries(2);
        int[] is = {6, 2, 0, 2, 1, 97, 0, 0b110110, 1, 2, 12, 1};
        for (int i = 0; i < 12; i++) due(x.count(i), is[i]);
        x.safe(4, 1);
        due(x.count(6), 1);
        all(BAD, x.count(-1), x.count(12), x.count(MIN), x.count(MAX));
    }
}
