import java.io.IOException;
import java.nio.file.Files;
import java.nio.file.Path;
import java.util.ArrayList;
import java.util.List;

/** What the tests of boundary cases share. A test belongs to a sentence, quoted from the document. */
final class Edges {
    static final int BAD = MeanSafe.BAD, NO = MeanSafe.NO, FULL = MeanSafe.FULL, NONE = MeanSafe.NONE,
            NOTHING = MeanSafe.NOTHING, KIND = MeanSafe.KIND, INDEX = MeanSafe.INDEX, SIZE = MeanSafe.SIZE;
    static final int HALF = 0, SLOW = 1, TELLER = 2, STILL = 3, SHOUTER = 4, FOE = 5;
    static final int MIN = Integer.MIN_VALUE, MAX = Integer.MAX_VALUE;

    interface Calls { void on(MeanSafe x); }

    interface Call { int on(MeanSafe x); }

    interface CallWith { int on(MeanSafe x, int v); }

    private static final String DOC = document();
    private static String sentence = "";
    private static int sentences = 0;
    private static int asked = 0;
    private static int wrong = 0;

    private Edges() { }

    // Where the document does not lie beside the checkout the answers are still looked at.
    private static String document() {
        try {
            return Files.readString(Path.of("../shared/DOC.md")).replaceAll("\\s+", " ");
        } catch (IOException e) {
            System.out.println("no document: the sentences are not looked up");
            return null;
        }
    }

    /** The sentence that the answers below are due by. */
    static void sentence(String words) {
        sentence = words;
        sentences++;
        if (DOC != null && !DOC.contains(words)) fail("the document does not say so");
    }

    private static void fail(String what) {
        wrong++;
        int line = 0;
        for (StackTraceElement at : Thread.currentThread().getStackTrace()) {
            if (at.getClassName().endsWith("Test") && line == 0) line = at.getLineNumber();
        }
        System.out.println("line " + line + ", \"" + sentence + "\": " + what);
    }

    static void due(int want, int... got) {
        for (int g : got) {
            asked++;
            if (g != want) fail("answered " + g + ", due is " + want);
        }
    }

    /** What a run of calls, by its number, answers. */
    static void row(CallWith call, MeanSafe x, int... want) {
        for (int i = 0; i < want.length; i++) due(want[i], call.on(x, i));
    }

    static void end() {
        if (wrong == 0) System.out.println(sentences + " sentences, " + asked + " answers: all as due");
        else System.out.println(wrong + " answers are not as due");
        if (wrong != 0) System.exit(1);
    }

    // ---- refusals

    /** The call is refused with this answer, and all is as if it had not been. */
    static void refused(int want, Call call) {
        refused(want, x -> { }, call);
    }

    static void refused(int want, Calls before, Call call) {
        MeanSafe x = rich();
        before.on(x);
        due(want, call.on(x));
        MeanSafe other = rich();
        before.on(other);
        same(other, x);
    }

    static void changesNothing(Calls before, Call call) {
        MeanSafe x = rich();
        before.on(x);
        call.on(x);
        MeanSafe other = rich();
        before.on(other);
        same(other, x);
    }

    /** Only what is from least to most is taken; what lies beyond is BAD. */
    static void range(int least, int most, CallWith call) {
        for (int v : new int[] {least - 1, most + 1, MIN, MAX}) refused(BAD, x -> call.on(x, v));
        for (int v : new int[] {least, most}) {
            int got = call.on(rich(), v);
            asked++;
            if (got == BAD) fail(v + " is refused");
        }
    }

    static void same(MeanSafe want, MeanSafe got) {
        List<Integer> w = dump(want);
        List<Integer> g = dump(got);
        asked++;
        if (!w.equals(g)) fail("something else is otherwise:\n  " + w + "\n  " + g);
    }

    /** Seven people, beliefs, texts, an image, sheets, slots, a tape, numbers that wait. */
    static MeanSafe rich() {
        MeanSafe x = new MeanSafe();
        x.seed(77);
        x.deal(6);
        x.person(STILL, 50, 2);
        x.set(1, 6, 0);
        x.safe(0, 62);
        x.safe(2, 3);
        x.safe(3, 40);
        law(x, "set (l+h)/2");
        law(x, "fee t*100+b");
        law(x, "fine w+d");
        x.tries(3);
        x.keep();
        for (int n = 1; n < 3; n++) {
            x.tell(x.behind(0, n, 0));
            x.tell(x.behind(0, n, 3));
        }
        x.set(2, 3, 4);
        x.safe(1, 1);
        x.tries(1);
        sheet(x, 0, 0, 5, -6, 7);
        sheet(x, 1, 1, 8, NONE, -99999, 1);
        sheet(x, 3, 1);
        x.lay(1, 1, 2);
        x.lay(2, 2, 1);
        x.lay(3, 3, -11);
        type(x, "fee 7777");
        return x;
    }

    /** All that can be told of it; it is used up by that. */
    private static List<Integer> dump(MeanSafe x) {
        List<Integer> all = new ArrayList<>();
        world(x, all);
        for (int slot = 0; slot < 5; slot++) slot(x, slot, all);
        for (int sheet = 0; sheet < 4; sheet++) {
            all.add(x.lay(4, 0, 0));
            all.add(x.lay(4, 2, sheet));
            slot(x, 4, all);
            all.add(x.mark(sheet, 0, NONE));
        }
        all.add(x.count(9));
        all.add(x.count(10));
        all.add(x.text());
        all.add(x.fee());
        all.add(x.check(2));
        all.add(x.back());
        world(x, all);
        return all;
    }

    private static void world(MeanSafe x, List<Integer> all) {
        for (int what = 0; what < 12; what++) all.add(x.count(what));
        for (int one = 0; one < x.count(0); one++) {
            for (int what = 0; what < 7; what++) all.add(x.told(one, what));
        }
        for (int key = 0; key < 3; key++) all.add(x.why(key));
        for (int text = 0; text < x.count(8); text++) all.add(x.textTold(text, 0) * 100 + x.textTold(text, 1));
        all.add(x.fee());
        all.add(x.fine(0));
        all.add(x.told(0, 7));
    }

    private static void slot(MeanSafe x, int slot, List<Integer> all) {
        for (int kind = 0; kind < 6; kind++) all.add(x.ask(slot, kind));
        all.add(x.rest(slot, MIN));
        int got = 0;
        for (int place = 0; place < 25 && got != INDEX && got != NOTHING; place++) {
            got = x.item(slot, place);
            all.add(got);
        }
    }

    // ---- objects

    static MeanSafe one(int kind, int dial, int number) {
        MeanSafe x = new MeanSafe();
        x.person(kind, dial, 1);
        x.safe(0, number);
        return x;
    }

    static MeanSafe people(int kind, int... dials) {
        MeanSafe x = new MeanSafe();
        for (int dial : dials) x.person(kind, dial, 1);
        return x;
    }

    static void sheet(MeanSafe x, int sheet, int sort, int... v) {
        x.sheet(sheet, sort, v.length);
        for (int i = 0; i < v.length; i++) x.mark(sheet, i, v[i]);
    }

    /** The sheet is this row, and no longer. */
    static void sheetIs(MeanSafe x, int sheet, int... v) {
        x.lay(4, 2, sheet);
        for (int i = 0; i < v.length; i++) due(v[i], x.item(4, i));
        due(INDEX, x.item(4, v.length));
    }

    static void tell(MeanSafe x, int... v) {
        for (int i : v) x.tell(i);
    }

    // ---- texts

    /** Puts a text on the tape, in twelves, and cuts what is too much. */
    static int type(MeanSafe x, String s) {
        int before = x.count(10);
        String padded = s + "            ";
        for (int i = 0; i < s.length(); i += 12) {
            x.feed(four(padded, i), four(padded, i + 4), four(padded, i + 8));
        }
        return x.trim(before + s.length());
    }

    private static int four(String s, int at) {
        return s.charAt(at) << 24 | s.charAt(at + 1) << 16 | s.charAt(at + 2) << 8 | s.charAt(at + 3);
    }

    static int law(MeanSafe x, String s) {
        type(x, s);
        return x.text();
    }

    static int read(String s) {
        return law(new MeanSafe(), s);
    }

    /** What an expression gives as a fee, with TRIES 3 and BOLTS 90. */
    static int gives(String e) {
        MeanSafe x = one(STILL, 50, 0);
        x.safe(3, 93);
        x.tries(3);
        due(0, law(x, "fee " + e));
        return x.fee();
    }

    static String times(int n, String s) {
        return s.repeat(n);
    }
}
