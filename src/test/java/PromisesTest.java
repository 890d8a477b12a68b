/** Each promise of the document by hand: ordinary inputs, the edges that it names, wrong inputs. */
public final class PromisesTest {
    private static final int BAD = -1, NO = -2, FULL = -3, NONE = -4;
    private static final int LOWEST = Integer.MIN_VALUE, HIGHEST = Integer.MAX_VALUE;
    private static int checked = 0;
    private static int wrong = 0;
    private static String promise = "";

    public static void main(String[] args) {
        newObject();
        write();
        wipe();
        fault();
        lay();
        speak();
        rule();
        weigh();
        put();
        take();
        alter();
        undo();
        sign();
        kind();
        depth();
        partner();
        wrongs();
        quote();
        said();
        paragraph();
        least();
        changes();
        mended();
        mendedOrder();
        mend();
        would();
        retell();
        count();
        System.out.println("PromisesTest: " + checked + " answers looked at, " + wrong + " wrong");
        if (wrong != 0) {
            System.exit(1);
        }
    }

    private static void due(String call, int got, int want) {
        checked++;
        if (got != want) {
            wrong++;
            System.out.println(promise + ": " + call + " answered " + got + ", due is " + want);
        }
    }

    private static void due(String call, String got, String want) {
        checked++;
        if (!got.equals(want)) {
            wrong++;
            System.out.println(promise + ": " + call + " answered [" + got + "], due is [" + want + "]");
        }
    }

    private static void tell(SpeechMarks x, String text) {
        x.wipe();
        for (int i = 0; i < text.length(); i++) {
            x.write(text.charAt(i));
        }
    }

    private static SpeechMarks laid(String text) {
        SpeechMarks x = new SpeechMarks();
        tell(x, text);
        due("lay of " + text, x.lay(), text.length());
        return x;
    }

    private static SpeechMarks laid(String tongue, int rule, String text) {
        SpeechMarks x = laid(text);
        tell(x, tongue);
        x.speak();
        x.rule(rule);
        tell(x, text);
        x.lay();
        return x;
    }

    private static String speech(SpeechMarks x) {
        StringBuilder all = new StringBuilder();
        for (int i = 0; i < x.count(0); i++) {
            all.append((char) x.sign(i));
        }
        return all.toString();
    }

    private static String mendedOf(SpeechMarks x) {
        StringBuilder all = new StringBuilder();
        int many = x.mended(-1);
        for (int i = 0; i < many; i++) {
            all.append((char) x.mended(i));
        }
        return all.toString();
    }

    private static String kinds(SpeechMarks x) {
        StringBuilder all = new StringBuilder();
        for (int i = 0; i < x.count(0); i++) {
            all.append(x.kind(i));
        }
        return all.toString();
    }

    private static String depths(SpeechMarks x) {
        StringBuilder all = new StringBuilder();
        for (int i = 0; i < x.count(0); i++) {
            all.append(x.depth(i));
        }
        return all.toString();
    }

    private static String wrongsOf(SpeechMarks x) {
        StringBuilder all = new StringBuilder();
        for (int i = 0; i < x.wrong(-1, 0); i++) {
            all.append(i == 0 ? "" : " ").append(x.wrong(i, 0)).append(':').append(x.wrong(i, 1));
        }
        return all.toString();
    }

    private static void newObject() {
        promise = "1 new";
        SpeechMarks x = new SpeechMarks();
        int[] want = {0, 0, 0, 1, 1, 1, 1, 0, 0, 0, 0};
        for (int what = 0; what < want.length; what++) {
            due("count(" + what + ")", x.count(what), want[what]);
        }
        due("fault()", x.fault(), NONE);
        due("undo()", x.undo(), NO);
        due("least()", x.least(), 0);
        due("mended(-1)", x.mended(-1), 0);
        due("paragraph(-1, 0)", x.paragraph(-1, 0), 1);
        due("quote(-1, 0)", x.quote(-1, 0), 0);
        due("BAD", SpeechMarks.BAD, BAD);
        due("NO", SpeechMarks.NO, NO);
        due("FULL", SpeechMarks.FULL, FULL);
        due("NONE", SpeechMarks.NONE, NONE);
        SpeechMarks y = new SpeechMarks();
        y.put(0, 'a');
        due("count(0) of the other", x.count(0), 0);
    }

    private static void write() {
        promise = "2 write";
        SpeechMarks x = new SpeechMarks();
        due("write(32)", x.write(32), 1);
        due("write(126)", x.write(126), 2);
        for (int letter : new int[] {31, 127, -1, 0, LOWEST, HIGHEST, 'a' + 65536, 'a' + 256}) {
            due("write(" + letter + ")", x.write(letter), BAD);
        }
        for (int i = 3; i <= 200; i++) {
            due("write A", x.write('A'), i);
        }
        due("write full", x.write('a'), FULL);
        due("write bad ahead of full", x.write(31), BAD);
        due("count(7)", x.count(7), 200);
        due("count(8)", x.count(8), 0);
    }

    private static void wipe() {
        promise = "3 wipe";
        SpeechMarks x = laid("<a>");
        due("wipe()", x.wipe(), 3);
        due("wipe() again", x.wipe(), 0);
        due("count(7)", x.count(7), 0);
        due("speech stays", speech(x), "<a>");
        due("write", x.write('b'), 1);
    }

    private static void fault() {
        promise = "4 fault";
        SpeechMarks x = new SpeechMarks();
        due("empty", x.fault(), NONE);
        tell(x, "az |<>{}()[]\"'");
        due("all signs", x.fault(), NONE);
        for (int letter = 32; letter <= 126; letter++) {
            boolean good = "abcdefghijklmnopqrstuvwxyz |<>{}()[]\"'".indexOf(letter) >= 0;
            x = new SpeechMarks();
            tell(x, "a" + (char) letter);
            due("fault of " + (char) letter, x.fault(), good ? NONE : 1);
        }
        x = new SpeechMarks();
        tell(x, "Aa");
        due("the first letter", x.fault(), 0);
        due("the first letter, lay", x.lay(), NO);
        tell(x, "abAcB");
        due("the first of two", x.fault(), 2);
        tell(x, "a".repeat(120));
        due("120", x.fault(), NONE);
        x.write('b');
        due("121", x.fault(), 120);
        x = new SpeechMarks();
        tell(x, "a".repeat(121) + "A");
        due("no sign behind the 121st", x.fault(), 120);
        tell(x, "a".repeat(119) + "A" + "aaa");
        due("no sign ahead of the 121st", x.fault(), 119);
        tell(x, "a".repeat(120) + "A");
        due("the 121st is no sign", x.fault(), 120);
    }

    private static void lay() {
        promise = "5 lay";
        SpeechMarks x = new SpeechMarks();
        x.put(0, 'q');
        due("empty", x.lay(), 0);
        due("count(0)", x.count(0), 0);
        due("undo()", x.undo(), NO);
        tell(x, "<a|");
        due("lay()", x.lay(), 3);
        due("speech", speech(x), "<a|");
        due("text stays", x.count(7), 3);
        x.rule(2);
        x.weigh(1, 7);
        tell(x, "south");
        x.speak();
        tell(x, "a?");
        due("lay with a fault", x.lay(), NO);
        due("speech stays", speech(x), "<a|");
        due("undone stays", x.count(8), 3);
        tell(x, "b");
        due("lay()", x.lay(), 1);
        due("nothing undone", x.count(8), 0);
        due("undo()", x.undo(), NO);
        due("tongue stays", x.count(2), 2);
        due("rule stays", x.count(3), 2);
        due("weight stays", x.count(5), 7);
        due("read ahead of it", x.kind(0) + x.least(), 0);
        tell(x, "<a");
        due("lay()", x.lay(), 2);
        due("read anew", x.kind(0), 6);
        due("mended anew", x.least(), 2);
        tell(x, "a".repeat(120));
        due("120", x.lay(), 120);
        x.write('a');
        due("121", x.lay(), NO);
        due("count(0)", x.count(0), 120);
    }

    private static void speak() {
        promise = "6 speak";
        SpeechMarks x = new SpeechMarks();
        tell(x, "north");
        due("it is so", x.speak(), NO);
        due("count(8)", x.count(8), 0);
        String[] names = {"north", "east", "south", "west"};
        for (int tongue : new int[] {1, 2, 3, 0}) {
            tell(x, names[tongue]);
            due(names[tongue], x.speak(), tongue);
            due("count(2)", x.count(2), tongue);
            due("again", x.speak(), NO);
        }
        due("count(8)", x.count(8), 4);
        for (String none : new String[] {"", "nort", "northh", "North", " north", "eas", "wesT", "e", "a"}) {
            tell(x, none);
            due("speak " + none, x.speak(), NONE);
        }
        due("count(8) still", x.count(8), 4);
        due("undo()", x.undo(), 3);
        due("count(2)", x.count(2), 3);
    }

    private static void rule() {
        promise = "7 rule";
        SpeechMarks x = laid("<a|b>");
        due("rule(1)", x.rule(1), NO);
        due("wrongs by 1", wrongsOf(x), "3:3");
        due("rule(0)", x.rule(0), 1);
        due("wrongs by 0", wrongsOf(x), "");
        due("rule(2)", x.rule(2), 0);
        due("rule(2) again", x.rule(2), NO);
        for (int r : new int[] {-1, 3, LOWEST, HIGHEST}) {
            due("rule(" + r + ")", x.rule(r), BAD);
        }
        due("count(3)", x.count(3), 2);
        due("count(8)", x.count(8), 2);
    }

    private static void weigh() {
        promise = "8 weigh";
        SpeechMarks x = new SpeechMarks();
        for (int which = 0; which < 3; which++) {
            due("weigh 1", x.weigh(which, 1), NO);
            due("weigh 9", x.weigh(which, 9), 1);
            due("weigh 2", x.weigh(which, 2 + which), 9);
            due("count", x.count(4 + which), 2 + which);
        }
        due("count(8)", x.count(8), 6);
        for (int bad : new int[] {-1, 3, LOWEST, HIGHEST}) {
            due("which " + bad, x.weigh(bad, 5), BAD);
        }
        for (int bad : new int[] {0, 10, -1, LOWEST, HIGHEST}) {
            due("w " + bad, x.weigh(1, bad), BAD);
        }
        due("both bad", x.weigh(3, 0), BAD);
        due("count(5)", x.count(5), 3);
    }

    private static void put() {
        promise = "9 put";
        SpeechMarks x = new SpeechMarks();
        due("put(1)", x.put(1, 'a'), BAD);
        due("put(0, b)", x.put(0, 'b'), 1);
        due("put(0, a)", x.put(0, 'a'), 2);
        due("put(2, |)", x.put(2, '|'), 3);
        due("put(1, \")", x.put(1, '"'), 4);
        due("speech", speech(x), "a\"b|");
        for (int i : new int[] {-1, 5, LOWEST, HIGHEST}) {
            due("place " + i, x.put(i, 'a'), BAD);
        }
        for (int sign : new int[] {'A', '.', 0, -1, 10, '`', '~', 'a' + 65536, LOWEST, HIGHEST}) {
            due("sign " + sign, x.put(0, sign), BAD);
        }
        due("count(8)", x.count(8), 4);
        x = laid("a".repeat(119));
        due("the 120th", x.put(119, '<'), 120);
        due("full", x.put(0, 'a'), FULL);
        due("bad ahead of full: place", x.put(121, 'a'), BAD);
        due("bad ahead of full: sign", x.put(0, 'A'), BAD);
        due("full at the end", x.put(120, 'a'), FULL);
        due("count(8)", x.count(8), 1);
    }

    private static void take() {
        promise = "10 take";
        SpeechMarks x = laid("abc");
        for (int i : new int[] {-1, 3, LOWEST, HIGHEST}) {
            due("take(" + i + ")", x.take(i), BAD);
        }
        due("take(1)", x.take(1), 'b');
        due("speech", speech(x), "ac");
        due("take(1)", x.take(1), 'c');
        due("take(0)", x.take(0), 'a');
        due("take(0)", x.take(0), BAD);
        due("count(8)", x.count(8), 3);
        x = laid("a".repeat(119) + "<");
        due("take(119)", x.take(119), '<');
        due("count(0)", x.count(0), 119);
    }

    private static void alter() {
        promise = "11 alter";
        SpeechMarks x = laid("abc");
        due("alter(1, <)", x.alter(1, '<'), 'b');
        due("speech", speech(x), "a<c");
        due("it is that", x.alter(1, '<'), NO);
        due("count(8)", x.count(8), 1);
        for (int i : new int[] {-1, 3, LOWEST, HIGHEST}) {
            due("place " + i, x.alter(i, 'a'), BAD);
        }
        for (int sign : new int[] {'A', 0, -1, '/', LOWEST, HIGHEST}) {
            due("sign " + sign, x.alter(0, sign), BAD);
        }
        due("count(8)", x.count(8), 1);
    }

    private static void undo() {
        promise = "12 undo";
        SpeechMarks x = laid("<a");
        due("undo()", x.undo(), NO);
        x.put(2, 'b');
        x.take(0);
        x.alter(0, '<');
        x.rule(2);
        x.weigh(2, 5);
        tell(x, "east");
        x.speak();
        due("count(8)", x.count(8), 6);
        due("undo speak", x.undo(), 5);
        due("tongue", x.count(2), 0);
        due("text stays", x.count(7), 4);
        due("undo weigh", x.undo(), 4);
        due("weight", x.count(6), 1);
        due("undo rule", x.undo(), 3);
        due("rule", x.count(3), 1);
        due("undo alter", x.undo(), 2);
        due("speech", speech(x), "ab");
        due("undo take", x.undo(), 1);
        due("speech", speech(x), "<ab");
        due("undo put", x.undo(), 0);
        due("speech", speech(x), "<a");
        due("undo none", x.undo(), NO);

        x = laid("");
        for (int i = 0; i < 9; i++) {
            x.put(i, 'a' + i);
        }
        due("six at most", x.count(8), 6);
        for (int more = 5; more >= 0; more--) {
            due("undo", x.undo(), more);
            due("size", x.count(0), 3 + more);
        }
        due("no seventh", x.undo(), NO);
        due("speech", speech(x), "abc");
        x.put(0, 'z');
        due("a change behind undoing", x.undo(), 0);
        due("speech", speech(x), "abc");

        x = laid("<a");
        due("mend()", x.mend(), 1);
        due("speech", speech(x), "<a>");
        due("undo mend", x.undo(), 0);
        due("speech", speech(x), "<a");
        due("wrongs", wrongsOf(x), "2:4");
        x = laid("<a>");
        x.retell(2);
        due("undo retell", x.undo(), 0);
        due("speech", speech(x), "<a>");
        due("tongue", x.count(2), 0);
        x.take(9);
        x.put(9, 'a');
        x.mend();
        x.retell(0);
        due("what was refused is no change", x.undo(), NO);
    }

    private static void sign() {
        promise = "13 sign";
        String all = "az |<>{}()[]\"'";
        SpeechMarks x = laid(all);
        for (int i = 0; i < all.length(); i++) {
            due("sign", x.sign(i), all.charAt(i));
        }
        for (int i : new int[] {-1, all.length(), LOWEST, HIGHEST}) {
            due("sign(" + i + ")", x.sign(i), BAD);
        }
    }

    private static void kind() {
        promise = "14 kind";
        due("all kinds", kinds(laid("a <{b}|<c>)>")), "013304250466");
        due("a break where a mark is due", kinds(laid("<|||<>")), "322254");
        due("by rule 2", kinds(laid("north", 2, "<{|<{}|<>")), "332554254");
        due("not renewed but opens", kinds(laid("<|{}>")), "32344");
        due("the due mark closes in east", kinds(laid("east", 1, "\"|\"\"")), "3254");
        due("in west", kinds(laid("west", 2, "'\"|'\"\"'")), "3325544");
        due("by rule 0", kinds(laid("east", 0, "\"|\"'\"")), "32463");
        SpeechMarks x = laid("<");
        for (int i : new int[] {-1, 1, LOWEST, HIGHEST}) {
            due("kind(" + i + ")", x.kind(i), BAD);
        }
    }

    private static void depth() {
        promise = "15 depth";
        due("depths", depths(laid("a<{b}|<c>>")), "0122111100");
        due("six at most", depths(laid("<{<{<{<{a}")), "1234566665");
        due("a wrong one leaves it", depths(laid("}<)a(>")), "011110");
        SpeechMarks x = laid("<");
        for (int i : new int[] {-1, 1, LOWEST, HIGHEST}) {
            due("depth(" + i + ")", x.depth(i), BAD);
        }
    }

    private static void partner() {
        promise = "16 partner";
        SpeechMarks x = laid("<{a}|<>)<");
        due("0", x.partner(0), 6);
        due("6", x.partner(6), 0);
        due("1", x.partner(1), 3);
        due("3", x.partner(3), 1);
        due("letter", x.partner(2), NO);
        due("break", x.partner(4), NO);
        due("renewer", x.partner(5), NO);
        due("wrong", x.partner(7), NO);
        due("left open", x.partner(8), NONE);
        for (int i : new int[] {-1, 9, LOWEST, HIGHEST}) {
            due("partner(" + i + ")", x.partner(i), BAD);
        }
        x.put(9, '>');
        due("closed now", x.partner(8), 9);
        x.undo();
        due("open again", x.partner(8), NONE);
    }

    private static void wrongs() {
        promise = "17 wrong";
        due("none", wrongsOf(laid("<a>")), "");
        due("by 1, by 2", wrongsOf(laid("}a(\"")), "0:1 2:2 3:2");
        due("of east by 1", wrongsOf(laid("east", 1, "'<\"\"'")), "0:1 1:2 4:1");
        due("by 3, then 1", wrongsOf(laid("<|}>")), "2:3 2:1");
        due("by 3, then 2", wrongsOf(laid("<|(>")), "2:3 2:2");
        due("by 3, then 4", wrongsOf(laid("<|")), "2:3 2:4");
        due("by 4", wrongsOf(laid("<")), "1:4");
        due("by 3 only", wrongsOf(laid("<|>")), "2:3");
        due("break upon break", wrongsOf(laid("<|||<>")), "2:3 3:3");
        due("half of what is due", wrongsOf(laid("north", 2, "<{|<a}>")), "4:3");
        due("the wrong order", wrongsOf(laid("north", 2, "<{|{<}>")), "3:3 3:1 5:1 7:4");
        due("seventh", wrongsOf(laid("<{<{<{<}>}>}>")), "6:1");
        SpeechMarks x = laid("|<".repeat(60));
        due("many", x.wrong(-1, 0), 1);
        x = laid("<|" + ")|".repeat(59));
        due("two at a place", x.wrong(-1, 0), 2 * 59 + 2);
        due("the last", x.wrong(2 * 59 + 1, 1), 4);
        x = laid("<|(");
        due("(-1, 1)", x.wrong(-1, 1), 3);
        due("(2, 0)", x.wrong(2, 0), 3);
        due("(2, 1)", x.wrong(2, 1), 4);
        due("(3, 0)", x.wrong(3, 0), NONE);
        due("(HIGHEST, 1)", x.wrong(HIGHEST, 1), NONE);
        for (int bad : new int[] {-2, LOWEST}) {
            due("i " + bad, x.wrong(bad, 0), BAD);
        }
        for (int bad : new int[] {-1, 2, LOWEST, HIGHEST}) {
            due("what " + bad, x.wrong(0, bad), BAD);
            due("what " + bad + " of -1", x.wrong(-1, bad), BAD);
            due("what " + bad + " of too many", x.wrong(99, bad), BAD);
        }
    }

    private static void quote() {
        promise = "18 quote";
        SpeechMarks x = laid("a<b c{d|<e}f{g}>h<i|");
        int[][] want = {
            {1, 15, 1, 6, 3, 1, 2},
            {5, 10, 2, 2, 2, 1, 0},
            {12, 14, 2, 1, 1, 0, 0},
            {17, NONE, 1, 1, 1, 1, 0},
        };
        for (int i = 0; i < want.length; i++) {
            for (int what = 0; what < 7; what++) {
                due("quote(" + i + ", " + what + ")", x.quote(i, what), want[i][what]);
            }
        }
        for (int what = 0; what < 7; what++) {
            due("(-1)", x.quote(-1, what), 4);
            due("(4)", x.quote(4, what), NONE);
            due("(HIGHEST)", x.quote(HIGHEST, what), NONE);
            due("(-2)", x.quote(-2, what), BAD);
            due("(LOWEST)", x.quote(LOWEST, what), BAD);
        }
        for (int bad : new int[] {-1, 7, LOWEST, HIGHEST}) {
            due("what " + bad, x.quote(0, bad), BAD);
            due("what " + bad + " of -1", x.quote(-1, bad), BAD);
            due("what " + bad + " of 9", x.quote(9, bad), BAD);
        }
        x = laid("<{<a");
        due("within", x.quote(0, 6), 2);
        due("letters", x.quote(0, 3), 1);
        due("own letters", x.quote(0, 4), 0);
        due("letters of 2", x.quote(2, 4), 1);
        x = laid("<>".repeat(60));
        due("60", x.quote(-1, 0), 60);
        due("the last", x.quote(59, 1), 119);
    }

    private static void said() {
        promise = "19 said";
        SpeechMarks x = laid("ab <c{d e}f<|>g>h<{<{<{z");
        int[] want;
        for (int d = 0; d <= 6; d++) {
            int letters = 0;
            for (int i = 0; i < x.count(0); i++) {
                letters += x.kind(i) == 0 && x.depth(i) == d ? 1 : 0;
            }
            due("said(" + d + ")", x.said(d), letters);
        }
        x = laid("ab <c{d e}f>h<{<{<{z");
        want = new int[] {3, 2, 2, 0, 0, 0, 1};
        for (int d = 0; d <= 6; d++) {
            due("said(" + d + ")", x.said(d), want[d]);
        }
        for (int bad : new int[] {-1, 7, LOWEST, HIGHEST}) {
            due("said(" + bad + ")", x.said(bad), BAD);
        }
    }

    private static void paragraph() {
        promise = "20 paragraph";
        SpeechMarks x = laid("north", 2, "a b<{c|<{d|<e}>||f");
        int[][] want = {{0, 3, 0}, {2, 1, 2}, {2, 1, 1}, {0, 0, 0}, {0, 1, 0}};
        for (int i = 0; i < want.length; i++) {
            for (int what = 0; what < 3; what++) {
                due("(" + i + ", " + what + ")", x.paragraph(i, what), want[i][what]);
            }
        }
        for (int what = 0; what < 3; what++) {
            due("(-1)", x.paragraph(-1, what), 5);
            due("(5)", x.paragraph(5, what), NONE);
            due("(HIGHEST)", x.paragraph(HIGHEST, what), NONE);
            due("(-2)", x.paragraph(-2, what), BAD);
            due("(LOWEST)", x.paragraph(LOWEST, what), BAD);
        }
        for (int bad : new int[] {-1, 3, LOWEST, HIGHEST}) {
            due("what " + bad, x.paragraph(0, bad), BAD);
            due("what " + bad + " of -1", x.paragraph(-1, bad), BAD);
            due("what " + bad + " of 9", x.paragraph(9, bad), BAD);
        }
        x = laid("|".repeat(120));
        due("121", x.paragraph(-1, 0), 121);
        due("the last", x.paragraph(120, 0), 0);
    }

    private static void least() {
        promise = "21 least";
        SpeechMarks x = laid("<a");
        due("least()", x.least(), 1);
        x.weigh(1, 9);
        due("put in", x.least(), 1);
        x.weigh(0, 4);
        due("put in for 4", x.least(), 4);
        x.weigh(1, 3);
        due("take out for 3", x.least(), 3);
        x = laid("north", 2, "<{<{<{a|b}>}>}>");
        x.weigh(1, 9);
        x.weigh(2, 9);
        due("six are due", x.least(), 6);
        x = laid("a}>}>}>");
        x.weigh(1, 9);
        x.weigh(2, 9);
        due("opened six deep", x.least(), 6);
        due("all breaks", laid("|".repeat(120)).least(), 0);
        x = laid("(".repeat(120));
        due("foreign", x.least(), 120);
        x.weigh(1, 9);
        x.weigh(2, 9);
        due("foreign for 9", x.least(), 1080);
        due("nothing changed", x.count(8), 2);
    }

    private static void changes() {
        promise = "22 changes";
        SpeechMarks x = laid("}a{b<c>d(e)f>");
        due("(0)", x.changes(0), 0);
        due("(1)", x.changes(1), 1);
        due("(2)", x.changes(2), 2);
        for (int bad : new int[] {-1, 3, LOWEST, HIGHEST}) {
            due("changes(" + bad + ")", x.changes(bad), BAD);
        }
        x = laid("<|a>");
        due("put in", x.changes(0), 1);
        x.weigh(0, 9);
        due("put in no more", x.changes(0), 0);
        due("taken out", x.changes(1), 2);
    }

    private static void mended() {
        promise = "23 mended";
        SpeechMarks x = laid("<a>");
        due("no wrongs", mendedOf(x), "<a>");
        due("(3)", x.mended(3), NONE);
        due("(HIGHEST)", x.mended(HIGHEST), NONE);
        due("(-2)", x.mended(-2), BAD);
        due("(LOWEST)", x.mended(LOWEST), BAD);
        x = laid("<".repeat(120));
        x.weigh(1, 9);
        x.weigh(2, 9);
        due("more than 120", x.mended(-1) > 120 ? 1 : 0, 1);
        due("the last", x.mended(x.mended(-1) - 1), '>');
        due("speech stays", x.count(0), 120);
        due("would() leaves it", x.would(1, 0), 1080);
        due("the last still", x.mended(x.mended(-1) - 1), '>');
        due("least still", x.least(), x.changes(0));
    }

    private static void mendedOrder() {
        promise = "23 mended, of several ways";
        due("the first stays", mendedOf(laid("<<")), "<>");
        due("becomes ahead of taken out", mendedOf(laid("(a>")), "<a>");
        due("opener ahead of closer", mendedOf(laid("<((>")), "<{}>");
        due("taken out ahead of put in", mendedOf(laid("a>")), "a");
        due("taken out, as late as may be", mendedOf(laid("<a>>")), "<a>");
        SpeechMarks x = laid("a>b");
        x.weigh(1, 2);
        due("put in, as late as may be", mendedOf(x), "a<>b");
        x = laid("<a{b");
        x.weigh(1, 9);
        x.weigh(2, 2);
        due("changed ahead of put in", mendedOf(x), "<a{b}>");
        due("what is due becomes", mendedOf(laid("<|{a>")), "<|<a>");
        due("what is due is put in", mendedOf(laid("<b{c|<d}>|")), "<b{c|<d}>|");
        due("closed by becoming closers", mendedOf(laid("north", 2, "<{<{a|")), "<{}>a|");
        x = laid("north", 2, "<{a|");
        x.weigh(1, 9);
        x.weigh(2, 9);
        due("closed ahead of the break", mendedOf(x), "<{a}>|");
        x = laid("<b|");
        x.alter(1, '|');
        x.put(3, '>');
        x.weigh(1, 9);
        x.weigh(2, 9);
        due("due is put in", mendedOf(x), "<|<|<>");
    }

    private static void mend() {
        promise = "24 mend";
        SpeechMarks x = laid("<a|b>");
        due("mend()", x.mend(), 1);
        due("speech", speech(x), "<a|<b>");
        due("count(8)", x.count(8), 1);
        due("again", x.mend(), NO);
        due("least()", x.least(), 0);
        due("text stays", x.count(7), 5);
        x = laid("a".repeat(118) + "<a");
        x.weigh(1, 9);
        due("full", x.least(), 1);
        due("full", x.mended(-1), 121);
        due("full", x.mend(), FULL);
        due("no change", x.count(8), 1);
        due("speech stays", x.wrong(-1, 0), 1);
        x.take(0);
        due("120 just fit", x.mend(), 1);
        due("count(0)", x.count(0), 120);
        due("wrongs", wrongsOf(x), "");
        x = laid("a".repeat(120));
        due("no wrongs", x.mend(), NO);
    }

    private static void would() {
        promise = "25 would";
        SpeechMarks x = laid("<a|b>");
        due("(0, 0)", x.would(0, 0), 0);
        due("(0, 1)", x.would(0, 1), 1);
        due("(0, 2)", x.would(0, 2), 1);
        due("(1, 0)", x.would(1, 0), 2);
        x.weigh(1, 5);
        x.weigh(2, 3);
        due("(3, 0)", x.would(3, 0), 6);
        due("least still", x.least(), 1);
        due("tongue still", x.count(2), 0);
        due("rule still", x.count(3), 1);
        due("mended still", mendedOf(x), "<a|<b>");
        due("count(8)", x.count(8), 2);
        for (int bad : new int[] {-1, 4, LOWEST, HIGHEST}) {
            due("tongue " + bad, x.would(bad, 0), BAD);
        }
        for (int bad : new int[] {-1, 3, LOWEST, HIGHEST}) {
            due("rule " + bad, x.would(0, bad), BAD);
        }
    }

    private static void retell() {
        promise = "26 retell";
        SpeechMarks x = laid("north", 2, "a<b{c<d|<{<e>}f>");
        due("south", x.retell(2), 0);
        due("speech", speech(x), "a(b[c(d|([(e)]f)");
        due("west", x.retell(3), 2);
        due("speech", speech(x), "a'b\"c'd|'\"'e'\"f'");
        due("east", x.retell(1), 3);
        due("speech", speech(x), "a\"b'c\"d|\"'\"e\"'f\"");
        due("wrongs", wrongsOf(x), "");
        due("east again", x.retell(1), NO);
        due("north", x.retell(0), 1);
        due("speech", speech(x), "a<b{c<d|<{<e>}f>");
        due("count(8)", x.count(8), 4);
        due("undo()", x.undo(), 3);
        due("tongue", x.count(2), 1);
        for (int bad : new int[] {-1, 4, LOWEST, HIGHEST}) {
            due("retell(" + bad + ")", x.retell(bad), BAD);
        }
        x = laid("<a");
        due("it has wrongs", x.retell(1), NO);
        due("speech stays", speech(x), "<a");
        due("bad ahead of no", x.retell(4), BAD);
        due("count(8)", x.count(8), 0);
        x = laid("<{<{<{a|<b}>}>}>");
        due("from the first sign to the last, and down to 6", x.retell(2), 0);
        due("speech", speech(x), "([([([a|(b])])])");
        x = laid("");
        due("empty", x.retell(3), 0);
        due("count(2)", x.count(2), 3);
    }

    private static void count() {
        promise = "27 count";
        SpeechMarks x = laid("<a{b}|<(\"c");
        x.rule(2);
        x.weigh(0, 2);
        x.weigh(1, 3);
        x.weigh(2, 4);
        tell(x, "south");
        x.speak();
        tell(x, "xy");
        int[] want = {10, 6, 2, 2, 2, 3, 4, 2, 5, 1, 1};
        for (int what = 0; what < want.length; what++) {
            due("count(" + what + ")", x.count(what), want[what]);
        }
        for (int bad : new int[] {-1, 11, LOWEST, HIGHEST}) {
            due("count(" + bad + ")", x.count(bad), BAD);
        }
        x = laid("<{<a>}b");
        due("greatest", x.count(9), 3);
        due("behind the last", x.count(10), 1);
        due("all ten", laid("<>{}()[]\"'a |").count(1), 10);
        x = laid("<>");
        x.take(1);
        due("marks that are left", x.count(1), 1);
    }
}
