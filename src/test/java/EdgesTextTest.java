/** Boundary cases of part 4 and of promises 23 to 27. */
public final class EdgesTextTest {
    private static final int BAD = Edges.BAD, FULL = Edges.FULL, NONE = Edges.NONE;
    private static final int HALF = 0, STILL = 3;
    private static final int MIN = Edges.MIN, MAX = Edges.MAX;

    public static void main(String[] args) {
        textsAndTape();
        grammar();
        names();
        blanks();
        everyByte();
        faultsOfWords();
        deepest();
        tooSoon();
        arithmetic();
        truth();
        whichCounts();
        feedAndTrim();
        textPromise();
        textToldAndWhy();
        Edges.end();
    }

    /** The fault of a text stands at this place. */
    private static void faultAt(int place, String... texts) {
        for (String s : texts) Edges.due(-100 - place, Edges.read(s));
    }

    private static void good(String... texts) {
        for (String s : texts) Edges.due(0, Edges.read(s));
    }

    private static void textsAndTape() {
        Edges.sentence("TEXTS, 14 at most, numbered from 0, from THE TAPE");
        MeanSafe x = new MeanSafe();
        for (int i = 0; i < 14; i++) {
            Edges.due(BAD, x.textTold(i, 0));
            Edges.due(i, Edges.law(x, "fee " + i), x.fee(), x.why(1));
            Edges.due(i + 1, x.count(8));
        }
        Edges.due(FULL, Edges.law(x, "fee 14"), Edges.law(x, "set 1"), Edges.law(x, "fine 1"));
        Edges.due(14, x.count(8));
        Edges.due(13, x.fee(), x.why(1));
        Edges.due(NONE, x.why(0), x.why(2));
        Edges.due(BAD, x.textTold(14, 0));
        // where an image takes texts away there is room again
        x = new MeanSafe();
        for (int i = 0; i < 13; i++) Edges.law(x, "fee 1");
        x.keep();
        for (int again = 0; again < 3; again++) {
            Edges.due(13, Edges.law(x, "fee 2"));
            Edges.due(FULL, Edges.law(x, "fee 3"));
            Edges.due(2, x.fee());
            x.back();
            Edges.due(13, x.count(8));
            Edges.due(1, x.fee());
        }

        // and nothing of a text that was taken away is left in the one that takes its number
        x = new MeanSafe();
        x.keep();
        for (String longer : new String[] {"fee !1", "fee !!(1+2)", "fee 1-2-3-4", "fee t|b&!7"}) {
            Edges.due(0, Edges.law(x, longer));
            x.back();
            Edges.due(0, Edges.law(x, "fee 5"));
            Edges.due(5, x.fee());
            Edges.due(1, x.textTold(0, 1));
            x.back();
        }

        Edges.sentence("(96 bytes at most; an act that reads it uses it up, whatever it answers)");
        x = new MeanSafe();
        for (String s : new String[] {"", "fee t", "fee", "fee 1?", "fee ((((((((((1"}) {
            Edges.type(x, s);
            x.text();
            Edges.due(0, x.count(10));
            Edges.due(-100, x.text());
        }
        while (x.count(8) < 14) Edges.law(x, "fee 1");
        Edges.due(FULL, Edges.law(x, "fee 1"));
        Edges.due(0, x.count(10));
        // what was read before is not on it any more
        Edges.type(x, "fee 1");
        Edges.due(FULL, x.text());
        Edges.due(-100 - 3, Edges.law(x, "fee"));
    }

    private static void grammar() {
        Edges.sentence("KEY: set | fee | fine.");
        good("set 1", "fee 1", "fine 1");
        faultAt(0, "", "s", "se", "sett 1", "fe 1", "feee 1", "fin 1", "fines 1", "Set 1", "SET 1", "1", "12 1", "( set 1)", "!set 1", "l", "t",
            "+ 1", "1a 1", "tes 1", "setfee 1", "eef 1");

        for (String key : new String[] {"set", "fee", "fine"}) {
            for (int i = 0; i < key.length(); i++) {
                faultAt(0, key.substring(0, i) + "x" + key.substring(i + 1) + " 1", key.substring(0, i) + key.substring(i + 1) + " 1");
            }
        }

        Edges.sentence("OR: AND { | AND }; AND: TEST { & TEST }; TEST: SUM [ (< | = | >) SUM ]; SUM: TERM { (+ | -) TERM };"
            + " TERM: PIECE { (* | /) PIECE }");
        for (char sign : "|&+-*/".toCharArray()) {
            good("fee 1" + sign + "2", "fee 1" + sign + "2" + sign + "3", "fee 1" + Edges.times(45, sign + "1"));
        }
        for (char sign : "<=>".toCharArray()) {
            good("fee 1" + sign + "2", "fee (1" + sign + "2)" + sign + "3", "fee 1" + sign + "2&3" + sign + "4", "fee 1+2" + sign + "2*3|3" + sign + "4");
            for (char next : "<=>".toCharArray()) {
                faultAt(7, "fee 1" + sign + "2" + next + "3");
                faultAt(6, "fee 1" + sign + next + "3");
                faultAt(8, "fee (1" + sign + "2" + next + "3)");
                faultAt(11, "fee 1+2" + sign + "2*2" + next + "3");
            }
        }
        for (char sign : "|&+-*/<=>".toCharArray()) {
            faultAt(4, "fee " + sign + "1");
            faultAt(6, "fee 1" + sign, "fee 1" + sign + sign + "2");
            faultAt(6, "fee 1" + sign + ")");
            faultAt(5, "fee (" + sign + "1)");
            faultAt(5, "fee !" + sign + "1");
        }
        Edges.due(14, Edges.gives("2+3*4"), Edges.gives("2*3+8"));
        Edges.due(1, Edges.gives("1|1&0"), Edges.gives("0&0|1"), Edges.gives("1+1=2"), Edges.gives("5-2<2*2"), Edges.gives("2>1&1"));
        Edges.due(5, Edges.gives("10-3-2"), Edges.gives("40/4/2"), Edges.gives("10/4*2+1"));

        Edges.sentence("PIECE: NUMBER (1 to 4 digits) | NAME | ! PIECE | ( E ).");
        Edges.due(0, Edges.gives("0"), Edges.gives("0000"), Edges.gives("!7"), Edges.gives("(0)"));
        Edges.due(9, Edges.gives("9"), Edges.gives("09"), Edges.gives("009"), Edges.gives("0009"), Edges.gives("((9))"));
        Edges.due(9999, Edges.gives("9999"));
        Edges.due(1000, Edges.gives("1000"));
        for (String sign : "| & < = > + - * /".split(" ")) good("fee (1" + sign + "2)", "fee !(1" + sign + "2)", "fee ((1" + sign + "2))*3");
        Edges.due(3, Edges.gives("(0|7)*3"), Edges.gives("(4&7)*3"), Edges.gives("(4<7)*3"), Edges.gives("6/(1+1)"));
        faultAt(4, "fee 10000", "fee 00001", "fee 12345", "fee 99999", "fee 1234567890");
        faultAt(5, "fee ()", "fee (", "fee !", "fee !)", "fee t!", "fee t(", "fee t)", "fee 1()", "fee !)1");
        faultAt(6, "fee (t", "fee (t(", "fee (1", "fee (1!", "fee !!");
        faultAt(7, "fee (t))", "fee (t)t", "fee (t)1", "fee (t)(t)", "fee (t)!t", "fee (1))");
    }

    private static void names() {
        Edges.sentence("NAMES, each one letter: of set l LOW, h HIGH, d its DIAL; of fee t TRIES, b BOLTS");
        String[] keys = {"set", "fee", "fine"};
        String[] names = {"lhd", "tb", "wd"};
        for (int key = 0; key < 3; key++) {
            for (char c = 'a'; c <= 'z'; c++) {
                int at = keys[key].length() + 1;
                Edges.due(names[key].indexOf(c) >= 0 ? 0 : -100 - at, Edges.read(keys[key] + " " + c));
                faultAt(at, keys[key] + " " + c + c, keys[key] + " " + (char) (c - 32));
            }
            for (int i = 0; i < names[key].length(); i++) {
                faultAt(keys[key].length() + 1, keys[key] + " " + names[key]);
            }
        }
        MeanSafe x = Edges.one(STILL, 50, 60);
        x.tries(1);
        x.set(0, 1, 70);
        x.safe(0, 40);
        x.tries(1);
        x.turns(0, HALF);
        x.set(0, 1, 99);
        String[] e = {"l", "h", "d"};
        int[] v = {51, 69, 99};
        for (int i = 0; i < 3; i++) {
            Edges.law(x, "set " + e[i]);
            Edges.due(v[i], x.told(0, 7));
        }
        Edges.due(3, Edges.gives("t"));
        Edges.due(90, Edges.gives("b"));

        Edges.sentence("of fine w WEIGHT, d DIAL");
        x = new MeanSafe();
        x.person(HALF, 99, 9);
        Edges.law(x, "fine w");
        Edges.due(9, x.fine(0));
        Edges.law(x, "fine d");
        Edges.due(99, x.fine(0));
    }

    private static void blanks() {
        Edges.sentence("Between words and signs, and at the ends, there may be blanks (byte 32); a word right behind another one needs one.");
        good("   set   1   ", "set(1)", "set!1", "set ( l + h ) / 2", "set(l+h)/2", "set ! ! 1", " fee t ", "fee 1 + 2");
        Edges.due(0, Edges.read(Edges.times(91, " ") + "fee 1"), Edges.read("fee" + Edges.times(92, " ") + "1"),
            Edges.read("fee 1" + Edges.times(91, " ")));
        faultAt(3, "set1", "fee1", "set12345", "fee1 ", "fee\t1", "fee\n1");
        faultAt(4, "fine1", "fine1+2");
        faultAt(0, "setl", "feet", "finew", "setlh");
        // two words without one sign between them go wrong at the second, with a blank or without
        faultAt(5, "fee t1", "fee 1t", "fee 9t+1");
        faultAt(6, "fee t 1", "fee 1 t", "fee 1 1", "fee t t", "fee 12t");
        faultAt(8, "fee 1234t");
        faultAt(9, "fee 1234 5");
        good("fee 1234+5", "fee t+1", "fee 1+t");
    }

    private static void everyByte() {
        Edges.sentence("A word is a row of letters a .. z, or of digits, as long as it goes; any other byte is a sign by itself.");
        for (int b = 0; b < 256; b++) {
            char c = (char) b;
            boolean letter = c >= 'a' && c <= 'z';
            boolean digit = c >= '0' && c <= '9';
            boolean sign = "|&<=>+-*/".indexOf(c) >= 0;
            boolean blank = c == ' ';
            Edges.due(sign ? 0 : -100 - (letter ? 4 : blank ? 7 : 5), Edges.read("fee t" + c + " b"));
            Edges.due(blank ? 0 : -100, Edges.read(c + "fee t"));
            Edges.due(blank || c == '!' ? 0 : -100 - (letter ? 0 : c == '(' ? 5 : 3), Edges.read("fee" + c + "t"));
            Edges.due(blank ? 0 : -100 - (letter ? 4 : sign ? 6 : 5), Edges.read("fee t" + c));
            Edges.due(digit || c == 't' || c == 'b' ? 0 : -100 - (blank || c == '!' || c == '(' ? 5 : 4), Edges.read("fee " + c));
        }
    }

    private static void faultsOfWords() {
        Edges.sentence("FAULT: the first byte of the first word or sign with which no TEXT goes on");
        faultAt(0, "x fee", "seta 1", "? 1");
        faultAt(4, "fee set 1", "fee fee", "set t+", "fee 12345+(", "fee xyz ?");
        faultAt(6, "fee 1+tt ?", "fee 1+12345 ?", "fee 1 ? ?", "fee 1+?", "fee t b b");
        faultAt(9, "fee   t  ?", "fee  1 + 12345");

        Edges.sentence("(a word that needs a blank ahead of it, a NUMBER of more than 4 digits,");
        faultAt(3, "fee1234", "fee1+2");
        faultAt(4, "fine0", "fee 00000", "fee 12345");
        faultAt(8, "fine w+(12345)");
        faultAt(11, "fee 1234 + 12345", "fee 1+2+34+56789");
    }

    private static void deepest() {
        Edges.sentence("the ninth ( that would be open within others,");
        for (int n = 1; n <= 8; n++) good("fee " + Edges.times(n, "(") + "1" + Edges.times(n, ")"));
        faultAt(12, "fee " + Edges.times(9, "(") + "1" + Edges.times(9, ")"), "fee " + Edges.times(12, "("));
        faultAt(20, "fee " + Edges.times(8, "( ") + "(");
        String eight = Edges.times(8, "(") + "1" + Edges.times(8, ")");
        good("fee " + Edges.times(20, "(1)+") + "1", "fee " + eight + "+" + eight, "fee (((((((" + "(1)+(1)" + ")))))))");
        faultAt(14, "fee " + Edges.times(8, "(") + "1+(1)");
        faultAt(30, "fee " + eight + "+" + Edges.times(9, "("));

        Edges.sentence("the ninth ! likewise, each by itself)");
        for (int n = 1; n <= 8; n++) good("fee " + Edges.times(n, "!") + "1");
        faultAt(12, "fee " + Edges.times(9, "!") + "1", "fee " + Edges.times(20, "!"));
        faultAt(20, "fee " + Edges.times(8, "! ") + "!");
        good("fee " + Edges.times(20, "!1+") + "1", "fee !!!!!!!!1+!!!!!!!!1");
        faultAt(22, "fee !!!!!!!!1+!!!!!!!!!1");
        good("fee " + Edges.times(8, "!(") + "1" + Edges.times(8, ")"), "fee !!!!!!!!" + eight, "fee ((((((((!!!!!!!!1))))))))");
        good("fee !!!!(!!!!1)", "fee !!!!(!!!!1+!!!!1)+!!!!!!!!1");
        faultAt(13, "fee !!!!(!!!!!1)");
        faultAt(20, "fee " + Edges.times(8, "!(") + "(", "fee " + Edges.times(8, "!(") + "!");
    }

    private static void tooSoon() {
        Edges.sentence("the end (the place behind the last byte), if it comes too soon.");
        faultAt(0, "");
        faultAt(1, " ");
        faultAt(3, "   ", "fee", "set");
        faultAt(4, "fee ", "fine");
        faultAt(5, "fee !", "fee (", "fine ");
        faultAt(6, "fee t+", "fee (t", "set ((", "fee t&");
        faultAt(8, "fee t+  ", "fee (t  ", "fee     ", "fee (t-b");
        faultAt(12, "fee " + Edges.times(8, "("), "fee " + Edges.times(8, "!"));
        faultAt(96, Edges.times(96, " "), "fee" + Edges.times(93, " "), "fee " + Edges.times(46, "1+"));
        good("fee " + Edges.times(45, "1+") + "1 ", "fee " + Edges.times(45, "1+") + "12", "fee  " + Edges.times(45, "1+") + "1");
    }

    private static void arithmetic() {
        Edges.sentence("Ints wrap;");
        String least = "8192*8192*32";
        Edges.due(MIN, Edges.gives(least), Edges.gives("0-" + least), Edges.gives(least + "*(0-1)"), Edges.gives(least + "/(0-1)"),
            Edges.gives("(" + least + "-1)+1"));
        Edges.due(MAX, Edges.gives(least + "-1"));
        Edges.due(0, Edges.gives(least + "+" + least), Edges.gives(least + "*2"));
        Edges.due(9999 * 9999 * 30, Edges.gives("9999*9999*30"));
        Edges.due(9999 * 9999 * 9999, Edges.gives("9999*9999*9999"));

        Edges.sentence("/ is 0 by 0;");
        Edges.due(0, Edges.gives("5/0"), Edges.gives("0/0"), Edges.gives("(0-5)/0"), Edges.gives(least + "/0"), Edges.gives("5/(t-3)*7"),
            Edges.gives("1/0/0"));
        Edges.due(2, Edges.gives("7/0+2"));
        Edges.due(1, Edges.gives("!(1/0)"), Edges.gives("3/t"));
        MeanSafe x = Edges.one(HALF, 50, 0);
        Edges.law(x, "set d/l");
        Edges.due(0, x.told(0, 7));
        Edges.due(2, x.tries(2));
        Edges.due(1, x.count(6));
    }

    private static void truth() {
        String least = "8192*8192*32";
        Edges.sentence("tests, & | ! give 1 or 0 (what is not 0 is true; both sides are worked out).");
        Edges.due(1, Edges.gives("1<2"), Edges.gives("2>1"), Edges.gives("2=2"), Edges.gives("0=0"), Edges.gives("5&7"), Edges.gives("2&1"),
            Edges.gives("0|9"), Edges.gives("9|0"), Edges.gives("4|8"), Edges.gives("!0"), Edges.gives("!!5"), Edges.gives("(0-3)|0"),
            Edges.gives("(0-1)&(0-2)"), Edges.gives(least + "&" + least));
        Edges.due(0, Edges.gives("1<1"), Edges.gives("1>1"), Edges.gives("2<1"), Edges.gives("1>2"), Edges.gives("1=2"), Edges.gives("5&0"),
            Edges.gives("0&5"), Edges.gives("0&0"), Edges.gives("0|0"), Edges.gives("!1"), Edges.gives("!2"), Edges.gives("!(0-1)"),
            Edges.gives("!" + "(" + least + ")"), Edges.gives("!!0"));
        // the least int is below the greatest, as it is
        Edges.due(1, Edges.gives(least + "<" + least + "-1"), Edges.gives(least + "-1>" + least), Edges.gives(least + "<0"));
        Edges.due(0, Edges.gives(least + ">" + least + "-1"), Edges.gives(least + "-1<" + least), Edges.gives("0<" + least));
        Edges.due(0, Edges.gives("0&1/0"), Edges.gives("1/0&0"));
        Edges.due(1, Edges.gives("1|1/0"), Edges.gives("1/0|1"));
    }

    private static void whichCounts() {
        Edges.sentence("Of a KEY that TEXT counts that was told last.");
        MeanSafe x = new MeanSafe();
        x.person(HALF, 50, 3);
        Edges.law(x, "fee 11");
        Edges.law(x, "fine 12");
        Edges.law(x, "set 13");
        Edges.law(x, "fee 14");
        Edges.due(14, x.fee());
        Edges.due(12, x.fine(0));
        Edges.due(13, x.told(0, 7));
        Edges.due(-107, Edges.law(x, "fee 15 ?"));
        Edges.due(14, x.fee());
        x.keep();
        Edges.law(x, "set 16");
        Edges.law(x, "fine 17");
        Edges.law(x, "fee 18");
        Edges.due(18, x.fee());
        Edges.due(17, x.fine(0));
        Edges.due(16, x.told(0, 7));
        Edges.row((o, key) -> o.why(key), x, 4, 6, 5);
        x.back();
        Edges.due(14, x.fee());
        Edges.due(12, x.fine(0));
        Edges.due(13, x.told(0, 7));
        Edges.row((o, key) -> o.why(key), x, 2, 3, 1);
        Edges.law(x, "fine 19");
        Edges.due(19, x.fine(0));
        Edges.due(13, x.told(0, 7));
        while (x.count(8) < 14) Edges.law(x, "fee 20");
        Edges.due(FULL, Edges.law(x, "fee 21"), Edges.law(x, "set 21"));
        Edges.due(20, x.fee());
        Edges.due(13, x.told(0, 7));
    }

    private static void feedAndTrim() {
        Edges.sentence("Twelve bytes come to THE TAPE, the highest of each number first: how many it has. FULL: it would have more than 96.");
        MeanSafe x = new MeanSafe();
        // "fee 1234*9+8", as it stands
        Edges.due(12, x.feed(0x66656520, 0x31323334, 0x2a392b38));
        Edges.due(0, x.text());
        Edges.due(1234 * 9 + 8, x.fee());
        for (int i = 1; i <= 8; i++) Edges.due(12 * i, x.feed(MIN, MAX, -1));
        Edges.due(FULL, x.feed(0, 0, 0));
        Edges.due(96, x.count(10));
        for (int n : new int[] {85, 95, 96}) {
            MeanSafe y = new MeanSafe();
            for (int i = 0; i < 8; i++) y.feed(0x20202020, 0x20202020, 0x20202020);
            y.trim(n);
            Edges.due(FULL, y.feed(-1, -1, -1));
            Edges.due(n, y.count(10));
            Edges.due(-100 - n, y.text());
        }
        x.trim(84);
        Edges.due(96, x.feed(0, 0, 0));
        Edges.refused(FULL, o -> {
            for (int i = 0; i < 7; i++) o.feed(0x20202020, 0x20202020, 0x20202020);
        }, o -> o.feed(0x20202020, 0x20202020, 0x20202020));
        // the highest bit of a byte is one like the others
        x = new MeanSafe();
        x.feed(0x66656520, 0x74202020, 0x202020ff);
        Edges.due(-100 - 11, x.text());
        x.feed(0xa0666565, 0x20742020, 0x20202020);
        Edges.due(-100, x.text());

        Edges.sentence("THE TAPE keeps its first n bytes: n. BAD.");
        Edges.range(0, 8, (o, v) -> o.trim(v));
        x = new MeanSafe();
        Edges.due(0, x.trim(0));
        Edges.due(BAD, x.trim(1), x.trim(-1));
        Edges.type(x, "fee 1234");
        Edges.due(8, x.trim(8));
        Edges.due(6, x.trim(6));
        Edges.due(BAD, x.trim(7));
        Edges.due(6, x.count(10));
        Edges.type(x, "+7");
        Edges.due(0, x.text());
        Edges.due(19, x.fee());
        for (int i = 0; i < 8; i++) x.feed(0, 0, 0);
        Edges.due(96, x.trim(96));
        Edges.due(BAD, x.trim(97));
        Edges.due(95, x.trim(95));
        Edges.due(BAD, x.trim(96));
        Edges.due(0, x.trim(0), x.count(10));
    }

    private static void textPromise() {
        Edges.sentence("THE TAPE is a TEXT: its number. -100 less the place of its FAULT; FULL.");
        for (String s : new String[] {"", "fee", "fee 1 2", "sett 1", "fee " + Edges.times(46, "1+")}) {
            MeanSafe x = Edges.rich();
            x.trim(0);
            Edges.type(x, s);
            x.text();
            MeanSafe other = Edges.rich();
            other.trim(0);
            Edges.same(other, x);
        }
        MeanSafe x = Edges.rich();
        MeanSafe other = Edges.rich();
        x.trim(0);
        other.trim(0);
        while (x.count(8) < 14) Edges.due(Edges.law(other, "fine 3"), Edges.law(x, "fine 3"));
        Edges.due(FULL, Edges.law(x, "set 1"));
        Edges.same(other, x);
        // a fault stands ahead of FULL
        x = new MeanSafe();
        for (int i = 0; i < 14; i++) Edges.due(i, Edges.law(x, "fee 1"));
        Edges.due(-100, x.text());
        Edges.due(-105, Edges.law(x, "fee !"));
        Edges.due(-196, Edges.law(x, "fee " + Edges.times(46, "1+")));
        Edges.due(FULL, Edges.law(x, "fee 1"));
    }

    private static void textToldAndWhy() {
        Edges.sentence("Of a TEXT: what 0 KEY (0 set, 1 fee, 2 fine), 1 how many NUMBERS and NAMES it has. BAD.");
        Edges.range(0, 2, (o, v) -> o.textTold(v, 0));
        Edges.range(0, 1, (o, v) -> o.textTold(0, v));
        MeanSafe x = new MeanSafe();
        Edges.due(BAD, x.textTold(0, 0), x.textTold(0, 1));
        String[] texts = {"set 1", "fee t", "fine !!(w)", "set l+h*(d-3)/!5", "fee " + Edges.times(45, "t+") + "1", "fine ((1234))"};
        int[] leaves = {1, 1, 1, 5, 46, 1};
        for (int i = 0; i < texts.length; i++) {
            Edges.due(i, Edges.law(x, texts[i]));
            Edges.due(i % 3, x.textTold(i, 0));
            Edges.due(leaves[i], x.textTold(i, 1));
        }
        while (x.count(8) < 14) Edges.law(x, "fine w+d");
        Edges.due(2, x.textTold(13, 0), x.textTold(13, 1));
        Edges.due(1, x.textTold(0, 1));
        Edges.due(BAD, x.textTold(14, 0), x.textTold(-1, 0), x.textTold(13, 2));

        Edges.sentence("The TEXT that counts for a KEY. BAD; NONE.");
        Edges.range(0, 2, (o, v) -> o.why(v));
        Edges.due(NONE, new MeanSafe().why(0), new MeanSafe().why(1), new MeanSafe().why(2));
        Edges.due(BAD, new MeanSafe().why(-1), new MeanSafe().why(3));
        Edges.due(13, x.why(2));
        Edges.due(3, x.why(0));
        Edges.due(4, x.why(1));
    }
}
