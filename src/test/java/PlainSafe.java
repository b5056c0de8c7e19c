import java.util.ArrayList;
import java.util.Arrays;
import java.util.List;

/**
 * The document once more, written apart from MeanSafe and as slowly as it likes: every thought is
 * a whole safe that is tried out, texts are worked out from their words each time.
 */
final class PlainSafe {
    static final int BAD = -1000000001, NO = -1000000002, FULL = -1000000003, NONE = -1000000005,
            NOTHING = -1000000011, KIND = -1000000012, INDEX = -1000000013, SIZE = -1000000014;

    static final class One {
        int kind, dial, weight, bias, low = 0, high = 99;
        boolean hears = true;

        One twin() {
            One o = new One();
            o.kind = kind;
            o.dial = dial;
            o.weight = weight;
            o.bias = bias;
            o.low = low;
            o.high = high;
            o.hears = hears;
            return o;
        }

        boolean under(int k) {
            switch (k) {
                case 0: return true;
                case 1: return kind == 1 || kind == 3;
                case 2: return kind == 2 || kind == 4;
                default: return kind == k;
            }
        }

        int worth() {
            int[] by = {weight, weight + 10, 50 - bias, 2 * weight + 20, 47 - bias, 1};
            return by[kind];
        }
    }

    static final class Law {
        int key;
        List<String> words = new ArrayList<>();
    }

    static final class State {
        int number = 0, law = 0, drift = 0, bolts = 99, tries = 0, z = 1;
        boolean open = false;
        List<One> people = new ArrayList<>();
        List<Law> laws = new ArrayList<>();

        State twin() {
            State s = new State();
            s.number = number;
            s.law = law;
            s.drift = drift;
            s.bolts = bolts;
            s.tries = tries;
            s.z = z;
            s.open = open;
            for (One o : people) s.people.add(o.twin());
            s.laws.addAll(laws);
            return s;
        }

        int lawFor(int key) {
            for (int i = laws.size() - 1; i >= 0; i--) if (laws.get(i).key == key) return i;
            return -1;
        }

        int half(One o) {
            int i = lawFor(0);
            int v = (o.low + o.high) / 2;
            if (i >= 0) v = new Worker(laws.get(i).words, "l", o.low, "h", o.high, "d", o.dial).all();
            return hold(v);
        }

        int sets(One o) {
            switch (o.kind) {
                case 0: return half(o);
                case 1: return (o.dial + half(o)) / 2;
                case 2: return hold(half(o) + o.bias);
                case 3: return o.dial;
                case 4: return hold(hold(half(o) + o.bias) + o.bias);
                default: return half(o) >= 50 ? 0 : 99;
            }
        }

        int says() {
            List<Integer> row = new ArrayList<>();
            for (One o : people) for (int i = 0; i < o.weight; i++) row.add(o.dial);
            if (row.isEmpty()) return -1;
            row.sort(null);
            if (law == 1) return row.get(row.size() / 2);
            if (law == 2) return row.get(row.size() - 1);
            int sum = 0;
            for (int d : row) sum += d;
            return sum / row.size();
        }

        boolean step(boolean bounded) {
            if (open || people.isEmpty() || (bounded && bolts == 0)) return false;
            bolts--;
            tries++;
            int s = says();
            if (s == number) {
                open = true;
                return true;
            }
            for (One o : people) {
                if (!o.hears) continue;
                if (s > number) o.high = hold(s - 1);
                else o.low = hold(s + 1);
                if (o.low > o.high) {
                    o.low = 0;
                    o.high = 99;
                }
            }
            int[] next = new int[people.size()];
            for (int i = 0; i < next.length; i++) next[i] = sets(people.get(i));
            for (int i = 0; i < next.length; i++) people.get(i).dial = next[i];
            number = number + drift;
            if (number > 99) number -= 100;
            if (number < 0) number += 100;
            return true;
        }

        int needs(int k) {
            State s = twin();
            s.number = k;
            for (int i = 0; i <= 12; i++) {
                if (s.open) return i;
                s.step(false);
            }
            return 13;
        }

        int needsOfAll() {
            int sum = 0;
            for (int k = 0; k < 100; k++) sum += needs(k);
            return sum;
        }
    }

    /** Works out a text from its words. */
    static final class Worker {
        final List<String> words;
        final Object[] names;
        int at = 1;

        Worker(List<String> words, Object... names) {
            this.words = words;
            this.names = names;
        }

        int all() {
            return or();
        }

        String look() {
            return at < words.size() ? words.get(at) : "";
        }

        int or() {
            int v = and();
            while (look().equals("|")) {
                at++;
                int w = and();
                v = v != 0 || w != 0 ? 1 : 0;
            }
            return v;
        }

        int and() {
            int v = test();
            while (look().equals("&")) {
                at++;
                int w = test();
                v = v != 0 && w != 0 ? 1 : 0;
            }
            return v;
        }

        int test() {
            int v = sum();
            String s = look();
            if (!s.equals("<") && !s.equals("=") && !s.equals(">")) return v;
            at++;
            int w = sum();
            boolean t = s.equals("<") ? v < w : s.equals("=") ? v == w : v > w;
            return t ? 1 : 0;
        }

        int sum() {
            int v = term();
            for (String s = look(); s.equals("+") || s.equals("-"); s = look()) {
                at++;
                int w = term();
                v = s.equals("+") ? v + w : v - w;
            }
            return v;
        }

        int term() {
            int v = piece();
            for (String s = look(); s.equals("*") || s.equals("/"); s = look()) {
                at++;
                int w = piece();
                v = s.equals("*") ? v * w : w == 0 ? 0 : v / w;
            }
            return v;
        }

        int piece() {
            String s = look();
            at++;
            if (s.equals("!")) return piece() == 0 ? 1 : 0;
            if (s.equals("(")) {
                int v = or();
                at++;
                return v;
            }
            for (int i = 0; i < names.length; i += 2) if (names[i].equals(s)) return (Integer) names[i + 1];
            return Integer.parseInt(s);
        }
    }

    static int hold(int v) {
        return v < 0 ? 0 : v > 99 ? 99 : v;
    }

    State now = new State();
    State image = null;
    List<Integer> tape = new ArrayList<>();
    List<Integer> waits = new ArrayList<>();
    Object[] sheets = new Object[4];
    Object[] slots = new Object[5];

    boolean no(int one) {
        return one < 0 || one >= now.people.size();
    }

    int person(int kind, int dial, int weight) {
        if (kind < 0 || kind > 5 || dial < 0 || dial > 99 || weight < 1 || weight > 9) return BAD;
        if (now.people.size() == 8) return FULL;
        One o = new One();
        o.kind = kind;
        o.dial = dial;
        o.weight = weight;
        now.people.add(o);
        return now.people.size() - 1;
    }

    int told(int one, int what) {
        if (no(one) || what < 0 || what > 8) return BAD;
        One o = now.people.get(one);
        int[] row = {o.kind, o.dial, o.weight, o.bias, o.low, o.high, o.hears ? 1 : 0, now.sets(o), o.worth()};
        return row[what];
    }

    int as(int one, int kind) {
        if (no(one) || kind < 0 || kind > 5) return BAD;
        return now.people.get(one).under(kind) ? now.people.get(one).dial : KIND;
    }

    int turns(int one, int kind) {
        if (no(one) || kind < 0 || kind > 5) return BAD;
        int was = now.people.get(one).kind;
        now.people.get(one).kind = kind;
        return was;
    }

    int set(int one, int what, int v) {
        if (no(one)) return BAD;
        One o = now.people.get(one);
        int was = what >= 0 && what < 7 ? told(one, what) : BAD;
        if (what == 1 && v >= 0 && v <= 99) o.dial = v;
        else if (what == 2 && v >= 1 && v <= 9) o.weight = v;
        else if (what == 3 && v >= -20 && v <= 20) o.bias = v;
        else if (what == 6 && (v == 0 || v == 1)) o.hears = v == 1;
        else return BAD;
        return was;
    }

    int forget() {
        int n = 0;
        for (One o : now.people) {
            if (o.low != 0 || o.high != 99) n++;
            o.low = 0;
            o.high = 99;
        }
        return n;
    }

    int draw() {
        now.z = now.z * 1103515245 + 12345;
        return now.z >>> 8;
    }

    int deal(int n) {
        if (n < 1 || n > 8) return BAD;
        int came = 0;
        while (came < n && now.people.size() < 8) {
            One o = new One();
            o.kind = draw() % 6;
            o.dial = draw() % 100;
            o.weight = 1 + draw() % 5;
            o.bias = draw() % 21 - 10;
            now.people.add(o);
            came++;
        }
        return came;
    }

    int seed(int v) {
        int was = now.z;
        now.z = v;
        return was;
    }

    int safe(int what, int v) {
        if (what < 0 || what > 4) return BAD;
        int[] least = {0, 0, -5, 0, 0};
        int[] most = {99, 2, 5, 99, 1};
        if (v < least[what] || v > most[what]) return BAD;
        int was = count(what + 2);
        if (what == 0) now.number = v;
        if (what == 1) now.law = v;
        if (what == 2) now.drift = v;
        if (what == 3) now.bolts = v;
        if (what == 4) now.open = v == 1;
        return was;
    }

    int says() {
        return now.says();
    }

    int tries(int n) {
        if (n < 1 || n > 100) return BAD;
        int were = 0;
        for (int i = 0; i < n; i++) if (now.tries < 9999 && now.step(true)) were++;
        return were;
    }

    int needs(int k) {
        if (k < 0 || k > 99) return BAD;
        int n = now.needs(k);
        return n == 13 ? NONE : n;
    }

    int worst(int what) {
        if (what != 0 && what != 1) return BAD;
        int k = 0, most = -1;
        for (int i = 0; i < 100; i++) {
            int n = now.needs(i);
            if (n > most) {
                most = n;
                k = i;
            }
        }
        return what == 0 ? k : most;
    }

    int had(int b) {
        if (b < 0 || b > 12) return BAD;
        int n = 0;
        for (int i = 0; i < 100; i++) if (now.needs(i) <= b) n++;
        return n;
    }

    int start(int one, int what) {
        if (no(one) || (what != 0 && what != 1)) return BAD;
        int dial = -1, least = 1 << 30;
        for (int d = 0; d <= 90; d += 10) {
            State s = now.twin();
            s.people.get(one).dial = d;
            int n = s.needsOfAll();
            if (n < least) {
                least = n;
                dial = d;
            }
        }
        return what == 0 ? dial : least;
    }

    int tells(int what) {
        if (what != 0 && what != 1) return BAD;
        if (now.people.isEmpty()) return NONE;
        int who = -1, least = 1 << 30;
        for (int i = 0; i < now.people.size(); i++) {
            State s = now.twin();
            for (int j = 0; j < s.people.size(); j++) s.people.get(j).hears = i == j;
            int n = s.needsOfAll();
            if (n < least) {
                least = n;
                who = i;
            }
        }
        return what == 0 ? who : least;
    }

    int keeps(int one) {
        if (no(one)) return BAD;
        State s = now.twin();
        s.people.get(one).kind = 5;
        return s.needs(now.number) - now.needs(now.number);
    }

    int behind(int one, int n, int what) {
        if (no(one) || n < 0 || n > 100 || what < 0 || what > 3) return BAD;
        State s = now.twin();
        for (int i = 0; i < n; i++) s.step(true);
        return what == 0 ? s.says() : what == 1 ? s.people.get(one).dial : what == 2 ? s.number : s.open ? 1 : 0;
    }

    static int length(Object row) {
        return row instanceof short[] ? ((short[]) row).length : ((float[]) row).length;
    }

    /** The number at a place, or null. */
    static Integer at(Object row, int place) {
        if (row instanceof short[]) return (int) ((short[]) row)[place];
        float f = ((float[]) row)[place];
        return Float.isNaN(f) ? null : Integer.valueOf((int) f);
    }

    boolean fits(int k, Object row) {
        State s = now.twin();
        s.number = k;
        for (int i = 0; i < length(row); i++) {
            int a = s.open ? 0 : s.says() > s.number ? 1 : s.says() < s.number ? -1 : 0;
            s.step(false);
            if (at(row, i) != null && at(row, i) != a) return false;
        }
        return true;
    }

    int left(int sheet, int what) {
        if (sheet < 0 || sheet > 3 || (what != 0 && what != 1)) return BAD;
        if (sheets[sheet] == null) return NOTHING;
        List<Integer> row = new ArrayList<>();
        for (int k = 0; k < 100; k++) if (!now.people.isEmpty() && fits(k, sheets[sheet])) row.add(k);
        return what == 0 ? row.size() : row.isEmpty() ? NONE : row.get(0);
    }

    int fee() {
        int i = now.lawFor(1);
        return i < 0 ? now.tries : new Worker(now.laws.get(i).words, "t", now.tries, "b", now.bolts).all();
    }

    int fine(int one) {
        if (no(one)) return BAD;
        One o = now.people.get(one);
        int i = now.lawFor(2);
        return i < 0 ? o.weight : new Worker(now.laws.get(i).words, "w", o.weight, "d", o.dial).all();
    }

    int feed(int a, int b, int c) {
        if (tape.size() > 84) return FULL;
        for (int v : new int[] {a, b, c}) for (int i = 3; i >= 0; i--) tape.add((v >> (8 * i)) & 0xff);
        return tape.size();
    }

    int trim(int n) {
        if (n < 0 || n > tape.size()) return BAD;
        while (tape.size() > n) tape.remove(tape.size() - 1);
        return n;
    }

    /** The place of the fault, or -1; the words come to the law. */
    static int fault(String s, Law law) {
        List<Boolean> tested = new ArrayList<>(List.of(false));
        List<Integer> nots = new ArrayList<>(List.of(0));
        boolean wantsPiece = true, wantsKey = true, wordBefore = false;
        int i = 0;
        while (i < s.length()) {
            if (s.charAt(i) == ' ') {
                i++;
                wordBefore = false;
                continue;
            }
            int j = i + 1;
            String like = s.substring(i, j).matches("[a-z]") ? "[a-z]" : s.substring(i, j).matches("[0-9]") ? "[0-9]" : null;
            while (like != null && j < s.length() && s.substring(j, j + 1).matches(like)) j++;
            String w = s.substring(i, j);
            int here = tested.size() - 1;
            int open = 0;
            for (int n : nots) open += n;
            if (wantsKey) {
                law.key = List.of("set", "fee", "fine").indexOf(w);
                if (law.key < 0) return i;
                wantsKey = false;
            } else if (like != null) {
                boolean name = w.length() == 1 && List.of("lhd", "tb", "wd").get(law.key).contains(w);
                boolean number = like.equals("[0-9]") && w.length() <= 4;
                if (!wantsPiece || wordBefore || (!name && !number)) return i;
                wantsPiece = false;
                nots.set(here, 0);
            } else if (wantsPiece) {
                if (w.equals("!") && open < 8) nots.set(here, nots.get(here) + 1);
                else if (w.equals("(") && here < 8) {
                    tested.add(false);
                    nots.add(0);
                } else return i;
            } else if (w.equals(")")) {
                if (here == 0) return i;
                tested.remove(here);
                nots.remove(here);
                nots.set(here - 1, 0);
            } else if ("<=>".contains(w)) {
                if (tested.get(here)) return i;
                tested.set(here, true);
                wantsPiece = true;
            } else if ("|&+-*/".contains(w)) {
                if ("|&".contains(w)) tested.set(here, false);
                wantsPiece = true;
            } else return i;
            law.words.add(w);
            wordBefore = like != null;
            i = j;
        }
        return wantsKey || wantsPiece || tested.size() > 1 ? s.length() : -1;
    }

    int text() {
        StringBuilder s = new StringBuilder();
        for (int b : tape) s.append((char) b);
        tape.clear();
        Law law = new Law();
        int fault = fault(s.toString(), law);
        if (fault >= 0) return -100 - fault;
        if (now.laws.size() == 14) return FULL;
        now.laws.add(law);
        return now.laws.size() - 1;
    }

    int textTold(int text, int what) {
        if (text < 0 || text >= now.laws.size() || what < 0 || what > 1) return BAD;
        Law law = now.laws.get(text);
        int n = -1;
        for (String w : law.words) if (w.matches("[a-z0-9]+")) n++;
        return what == 0 ? law.key : n;
    }

    int why(int key) {
        if (key < 0 || key > 2) return BAD;
        int i = now.lawFor(key);
        return i < 0 ? NONE : i;
    }

    int sheet(int sheet, int sort, int n) {
        if (sheet < 0 || sheet > 3 || sort < -1 || sort > 1) return BAD;
        if (sort >= 0 && n > 24) return BAD;
        if (sort >= 0 && n < 0) return SIZE;
        sheets[sheet] = sort < 0 ? null : sort == 0 ? new short[n] : new float[n];
        return sort < 0 ? 0 : n;
    }

    int mark(int sheet, int place, int v) {
        if (sheet < 0 || sheet > 3) return BAD;
        Object row = sheets[sheet];
        if (row == null) return NOTHING;
        if (place < 0 || place >= length(row)) return INDEX;
        if (row instanceof short[]) {
            if (v == NONE) return KIND;
            ((short[]) row)[place] = (short) v;
            return 1;
        }
        if (v != NONE && Math.abs((long) v) > 99999) return BAD;
        ((float[]) row)[place] = v == NONE ? Float.NaN : v;
        return 1;
    }

    int pour(int sheet) {
        if (sheet < 0 || sheet > 3) return BAD;
        Object row = sheets[sheet];
        if (row == null) return NOTHING;
        int n = 0;
        for (int i = 0; i < now.people.size(); i++) {
            if (i >= length(row) || at(row, i) == null) continue;
            int d = hold(at(row, i));
            if (d != now.people.get(i).dial) n++;
            now.people.get(i).dial = d;
        }
        return n;
    }

    int reads(int sheet) {
        if (sheet < 0 || sheet > 3) return BAD;
        Object row = sheets[sheet];
        if (row == null) return NOTHING;
        for (int k = 0; k < length(row); k++) if (at(row, k) != null && at(row, k) != now.needs(k)) return k;
        return NONE;
    }

    int copy(int from, int place, int to, int at, int many) {
        if (from < 0 || from > 3 || to < 0 || to > 3) return BAD;
        if (sheets[from] == null || sheets[to] == null) return NOTHING;
        if (sheets[from].getClass() != sheets[to].getClass()) return KIND;
        try {
            System.arraycopy(sheets[from], place, sheets[to], at, many);
        } catch (IndexOutOfBoundsException e) {
            return INDEX;
        }
        return many;
    }

    static int thing(Object o) {
        return o == null ? 0 : o instanceof One ? 1 : o instanceof Integer ? 3 : 2;
    }

    int lay(int slot, int thing, int k) {
        if (slot < 0 || slot > 4 || thing < 0 || thing > 3) return BAD;
        if (thing == 1 && no(k)) return BAD;
        if (thing == 2 && (k < 0 || k > 3)) return BAD;
        if (thing == 2 && sheets[k] == null) return NOTHING;
        int was = thing(slots[slot]);
        if (thing == 0) slots[slot] = null;
        if (thing == 1) slots[slot] = now.people.get(k).twin();
        if (thing == 2) slots[slot] = sheets[k] instanceof short[] ? ((short[]) sheets[k]).clone() : ((float[]) sheets[k]).clone();
        if (thing == 3) slots[slot] = k;
        return was;
    }

    int ask(int slot, int kind) {
        if (slot < 0 || slot > 4 || kind < 0 || kind > 5) return BAD;
        if (slots[slot] == null) return NOTHING;
        if (thing(slots[slot]) != 1 || !((One) slots[slot]).under(kind)) return KIND;
        return ((One) slots[slot]).worth();
    }

    int item(int slot, int place) {
        if (slot < 0 || slot > 4) return BAD;
        if (slots[slot] == null) return NOTHING;
        if (thing(slots[slot]) != 2) return KIND;
        if (place < 0 || place >= length(slots[slot])) return INDEX;
        Integer v = at(slots[slot], place);
        return v == null ? KIND : v;
    }

    int rest(int slot, int n) {
        if (slot < 0 || slot > 4) return BAD;
        if (slots[slot] == null) return NOTHING;
        if (thing(slots[slot]) != 3) return KIND;
        return n == 0 ? NO : (Integer) slots[slot] % n;
    }

    int tell(int v) {
        if (waits.size() == 60) return FULL;
        waits.add(v);
        return waits.size();
    }

    List<Integer> triesTold(State from, int n) {
        List<Integer> row = new ArrayList<>();
        State s = from.twin();
        for (int i = 0; i < n; i++) {
            s.step(true);
            row.add(s.says());
            row.add(s.open ? 1 : 0);
        }
        return row;
    }

    int check(int n) {
        List<Integer> had = waits;
        waits = new ArrayList<>();
        if (n < 1 || n > 30) return BAD;
        if (image == null) return NO;
        List<Integer> row = triesTold(image, n);
        if (row.equals(had)) return 0;
        int[] a = had.stream().mapToInt(v -> v).toArray();
        int[] b = row.stream().mapToInt(v -> v).toArray();
        return 1 + Arrays.mismatch(a, b);
    }

    int keep() {
        image = now.twin();
        return image.people.size();
    }

    int back() {
        if (image == null) return NO;
        now = image.twin();
        return now.people.size();
    }

    int count(int what) {
        if (what < 0 || what > 11) return BAD;
        int who = 0;
        for (int i = 0; i < now.people.size(); i++) if (now.people.get(i).hears) who += 1 << i;
        int[] row = {now.people.size(), now.tries, now.number, now.law, now.drift, now.bolts, now.open ? 1 : 0, who,
            now.laws.size(), waits.size(), tape.size(), now.z};
        return row[what];
    }
}
