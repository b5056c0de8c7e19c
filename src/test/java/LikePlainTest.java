import java.util.ArrayList;
import java.util.List;
import java.util.Random;

/** Runs of calls by lot (the same each time): MeanSafe answers as PlainSafe does, call by call. */
public final class LikePlainTest {
    private static final int[] EDGES = {-1, 0, 1, 2, 3, 4, 5, 7, 8, 9, 12, 13, 24, 25, 30, 31, 60, 96, 99, 100, 101,
        -5, -6, -20, -21, 20, 21, 32767, 32768, 65535, -32769, 99999, 100000, -99999, -100000,
        Integer.MAX_VALUE, Integer.MIN_VALUE, MeanSafe.NONE, MeanSafe.BAD};

    private final Random lot;
    private final MeanSafe real = new MeanSafe();
    private final PlainSafe plain = new PlainSafe();
    private final List<String> calls = new ArrayList<>();
    private boolean wrong = false;

    private LikePlainTest(long seed) {
        lot = new Random(seed);
    }

    public static void main(String[] args) {
        int runs = args.length > 0 ? Integer.parseInt(args[0]) : 400;
        int wrong = 0;
        for (int run = 0; run < runs; run++) {
            LikePlainTest test = new LikePlainTest(7919L * run + 1);
            test.play(run % 4);
            if (test.wrong) {
                wrong++;
                System.out.println("run " + run + ": " + String.join("; ", test.calls));
            }
        }
        System.out.println(wrong == 0 ? "all " + runs + " runs are as due" : wrong + " runs are not as due");
        if (wrong != 0) System.exit(1);
    }

    private void play(int style) {
        int length = 60 + lot.nextInt(200);
        if (style != 0) {
            int z = lot.nextInt();
            did("seed", plain.seed(z), real.seed(z), z);
        }
        for (int i = 0; i < length && !wrong; i++) {
            call(lot.nextInt(48), style);
        }
    }

    // Most arguments are good ones; some stand at an edge, some are wild.
    private int num(int least, int most) {
        int r = lot.nextInt(40);
        if (r == 0) return EDGES[lot.nextInt(EDGES.length)];
        if (r == 1) return lot.nextInt();
        if (r == 2) return least - 1;
        if (r == 3) return most + 1;
        if (r == 4) return most;
        if (r == 5) return least;
        return least + lot.nextInt(most - least + 1);
    }

    private int one() {
        return num(0, Math.max(0, plain.now.people.size() - 1));
    }

    private void did(String call, int want, int got, int... args) {
        StringBuilder s = new StringBuilder(call).append('(');
        for (int i = 0; i < args.length; i++) s.append(i > 0 ? ", " : "").append(args[i]);
        s.append(")=").append(got);
        if (want != got) {
            wrong = true;
            s.append(" due ").append(want);
        }
        calls.add(s.toString());
    }

    private void call(int which, int style) {
        if (which < 8) people(which);
        else if (which < 12) safe(which, style);
        else if (which < 22) willBe(which);
        else if (which < 27) texts(which);
        else if (which < 37) sheetsAndSlots(which);
        else if (which < 42) images(which);
        else if (which < 45) newText();
        else if (which == 45) honestRow();
        else honestSheet();
    }

    private void people(int which) {
        int a = one(), k = num(0, 5), w;
        switch (which) {
            case 0: w = num(1, 9); int d = num(0, 99); did("person", plain.person(k, d, w), real.person(k, d, w), k, d, w); break;
            case 1: for (int i = 0; i < 9; i++) did("told", plain.told(a, i), real.told(a, i), a, i);
                w = num(0, 8); did("told", plain.told(a, w), real.told(a, w), a, w); break;
            case 2: did("as", plain.as(a, k), real.as(a, k), a, k); break;
            case 3: did("turns", plain.turns(a, k), real.turns(a, k), a, k); break;
            case 4: int what = num(1, 6);
                int v = what == 1 ? num(0, 99) : what == 2 ? num(1, 9) : what == 3 ? num(-20, 20) : num(0, 1);
                did("set", plain.set(a, what, v), real.set(a, what, v), a, what, v); break;
            case 5: if (lot.nextInt(4) == 0) did("forget", plain.forget(), real.forget()); break;
            case 6: w = lot.nextInt(3) == 0 ? num(1, 8) : 1; did("deal", plain.deal(w), real.deal(w), w); break;
            default: w = lot.nextInt(); did("seed", plain.seed(w), real.seed(w), w);
        }
    }

    private void safe(int which, int style) {
        int v;
        switch (which) {
            case 8: case 9:
                int what = num(0, 4);
                v = what == 0 ? num(0, 99) : what == 1 ? num(0, 2) : what == 2 ? num(-5, 5) : what == 3 ? num(0, 99) : num(0, 1);
                if (what == 4 && v == 1 && style != 3) v = 0;
                did("safe", plain.safe(what, v), real.safe(what, v), what, v); break;
            case 10: did("says", plain.says(), real.says()); break;
            default: v = lot.nextInt(3) == 0 ? num(1, 100) : num(1, 3); did("tries", plain.tries(v), real.tries(v), v);
        }
    }

    private void willBe(int which) {
        int a = one(), what = num(0, 1), v;
        switch (which) {
            case 12: v = num(0, 99); did("needs", plain.needs(v), real.needs(v), v); break;
            case 13: did("worst", plain.worst(what), real.worst(what), what); break;
            case 14: v = num(0, 12); did("had", plain.had(v), real.had(v), v); break;
            case 15: if (lot.nextInt(4) == 0) did("start", plain.start(a, what), real.start(a, what), a, what); break;
            case 16: if (lot.nextInt(4) == 0) did("tells", plain.tells(what), real.tells(what), what); break;
            case 17: did("keeps", plain.keeps(a), real.keeps(a), a); break;
            case 18: v = num(0, 100); what = num(0, 3); did("behind", plain.behind(a, v, what), real.behind(a, v, what), a, v, what); break;
            case 19: v = num(0, 3); did("left", plain.left(v, what), real.left(v, what), v, what); break;
            case 20: did("fee", plain.fee(), real.fee()); break;
            default: did("fine", plain.fine(a), real.fine(a), a);
        }
    }

    private void texts(int which) {
        int v, w;
        switch (which) {
            case 22: if (lot.nextInt(3) == 0) { v = lot.nextInt(); did("feed", plain.feed(v, v, v), real.feed(v, v, v), v, v, v); } break;
            case 23: v = num(0, 96); did("trim", plain.trim(v), real.trim(v), v); break;
            case 24: did("text", plain.text(), real.text()); break;
            case 25: v = num(0, 13); w = num(0, 1); did("textTold", plain.textTold(v, w), real.textTold(v, w), v, w); break;
            default: v = num(0, 2); did("why", plain.why(v), real.why(v), v);
        }
    }

    private void sheetsAndSlots(int which) {
        int s = num(0, 3), t = num(0, 4), v = num(0, 24), w = num(0, 24), n;
        switch (which) {
            case 27: n = num(-1, 1); did("sheet", plain.sheet(s, n, v), real.sheet(s, n, v), s, n, v); break;
            case 28: n = lot.nextBoolean() ? num(-1, 99) : EDGES[lot.nextInt(EDGES.length)];
                did("mark", plain.mark(s, v, n), real.mark(s, v, n), s, v, n); break;
            case 29: did("pour", plain.pour(s), real.pour(s), s); break;
            case 30: did("reads", plain.reads(s), real.reads(s), s); break;
            case 31: int to = lot.nextBoolean() ? s : num(0, 3); n = num(0, 8);
                did("copy", plain.copy(s, v, to, w, n), real.copy(s, v, to, w, n), s, v, to, w, n); break;
            case 32: case 33: int thing = num(0, 3); n = thing == 1 ? one() : thing == 2 ? s : lot.nextInt();
                did("lay", plain.lay(t, thing, n), real.lay(t, thing, n), t, thing, n); break;
            case 34: n = num(0, 5); did("ask", plain.ask(t, n), real.ask(t, n), t, n); break;
            case 35: did("item", plain.item(t, v), real.item(t, v), t, v); break;
            default: n = num(-9, 9); did("rest", plain.rest(t, n), real.rest(t, n), t, n);
        }
    }

    private void images(int which) {
        int v;
        switch (which) {
            case 37: v = num(-1, 99); did("tell", plain.tell(v), real.tell(v), v); break;
            case 38: if (lot.nextInt(4) == 0) { v = num(1, 30); did("check", plain.check(v), real.check(v), v); } break;
            case 39: if (lot.nextInt(3) == 0) did("keep", plain.keep(), real.keep()); break;
            case 40: if (lot.nextInt(5) == 0) did("back", plain.back(), real.back()); break;
            default: for (int i = 0; i < 12; i++) did("count", plain.count(i), real.count(i), i);
                v = num(0, 11); did("count", plain.count(v), real.count(v), v);
        }
    }

    // A text that is mostly good, on a tape that is mostly empty ahead of it.
    private void newText() {
        if (lot.nextInt(8) != 0) did("trim", plain.trim(0), real.trim(0), 0);
        int key = lot.nextInt(5);
        String names = key < 3 ? "lhd" : key == 3 ? "tb" : "wd";
        StringBuilder s = new StringBuilder(key < 3 ? "set" : key == 3 ? "fee" : "fine");
        if (lot.nextInt(12) != 0) s.append(' ');
        expression(s, names, lot.nextInt(5));
        String text = s.toString();
        if (lot.nextInt(4) == 0) text = spoilt(text);
        String padded = text + "            ".substring(0, (12 - text.length() % 12) % 12);
        int before = plain.tape.size();
        for (int i = 0; i < padded.length(); i += 12) {
            int a = four(padded, i), b = four(padded, i + 4), c = four(padded, i + 8);
            did("feed", plain.feed(a, b, c), real.feed(a, b, c), a, b, c);
        }
        if (lot.nextInt(3) != 0) did("trim", plain.trim(before + text.length()), real.trim(before + text.length()), before + text.length());
        calls.add('"' + text + '"');
        did("text", plain.text(), real.text());
        int last = plain.now.laws.size() - 1;
        for (int i = 0; i < 2; i++) did("textTold", plain.textTold(last, i), real.textTold(last, i), last, i);
    }

    private static int four(String s, int at) {
        return s.charAt(at) << 24 | s.charAt(at + 1) << 16 | s.charAt(at + 2) << 8 | s.charAt(at + 3);
    }

    private void expression(StringBuilder s, String names, int depth) {
        int r = lot.nextInt(10);
        if (depth <= 0 || r < 1) {
            if (lot.nextInt(3) == 0) s.append(lot.nextInt(lot.nextInt(4) == 0 ? 10000 : 30));
            else s.append(names.charAt(lot.nextInt(names.length())));
            return;
        }
        if (r == 1) {
            s.append('!');
            expression(s, names, depth);
            return;
        }
        if (r < 4) {
            s.append('(');
            expression(s, names, depth - 1);
            s.append(')');
            return;
        }
        expression(s, names, depth - 2);
        if (lot.nextInt(4) == 0) s.append(' ');
        s.append("+-*/+-*/<=>|&".charAt(lot.nextInt(13)));
        if (lot.nextInt(4) == 0) s.append("  ");
        expression(s, names, depth - 1);
    }

    private String spoilt(String text) {
        StringBuilder s = new StringBuilder(text);
        int at = lot.nextInt(s.length());
        String row = "lhdtbw 0123456789!!((()))+-*/<=>&|A_" + (char) 0 + (char) 255;
        switch (lot.nextInt(5)) {
            case 0: s.setCharAt(at, row.charAt(lot.nextInt(row.length()))); break;
            case 1: s.deleteCharAt(at); break;
            case 2: s.insert(at, row.charAt(lot.nextInt(row.length()))); break;
            case 3: for (int i = 0; i < 9; i++) s.insert(at, lot.nextBoolean() ? "!" : "!("); break;
            default: for (int i = 0; i < 4 + lot.nextInt(6); i++) s.insert(Math.max(at, 4), "(!1=".charAt(lot.nextInt(4)));
        }
        return s.length() > 96 ? s.substring(0, 96) : s.toString();
    }

    // The tries told as they are, or all but one, so that check comes far into the row.
    private void honestRow() {
        if (plain.image == null) return;
        int n = 1 + lot.nextInt(30);
        List<Integer> row = plain.triesTold(plain.image, n);
        int slip = lot.nextInt(3) == 0 ? lot.nextInt(row.size()) : -1;
        if (lot.nextInt(5) == 0) row.remove(row.size() - 1);
        if (lot.nextInt(5) == 0) row.add(lot.nextInt(3));
        for (int i = 0; i < row.size(); i++) {
            int v = i == slip ? row.get(i) + 1 : row.get(i);
            did("tell", plain.tell(v), real.tell(v), v);
        }
        did("check", plain.check(n), real.check(n), n);
    }

    // A sheet of the answers to a number, or of what the numbers need, some places spoilt.
    private void honestSheet() {
        int s = lot.nextInt(4), n = 1 + lot.nextInt(24), sort = lot.nextInt(2);
        boolean answers = lot.nextBoolean();
        did("sheet", plain.sheet(s, sort, n), real.sheet(s, sort, n), s, sort, n);
        PlainSafe.State state = plain.now.twin();
        state.number = lot.nextInt(100);
        int spoil = 4 + lot.nextInt(60);
        for (int i = 0; i < n; i++) {
            int v = answers ? (state.open ? 0 : Integer.compare(state.says(), state.number)) : plain.now.needs(i);
            state.step(false);
            if (lot.nextInt(spoil) == 0) v = sort == 1 && lot.nextInt(4) != 0 ? MeanSafe.NONE : num(-1, 13);
            did("mark", plain.mark(s, i, v), real.mark(s, i, v), s, i, v);
        }
        for (int i = 0; i < 2; i++) did("left", plain.left(s, i), real.left(s, i), s, i);
        did("reads", plain.reads(s), real.reads(s), s);
    }
}
