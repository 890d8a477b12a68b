/**
 * Sentence by sentence what the document's Terms and promises say of the least and the most: empty and
 * full texts and speeches, the lowest and the greatest depth, what is due and what is left open at the
 * end, weights, changes that can be undone, the last call that is promised.
 */
public final class EdgesTest {
    private static final int BAD = -1, NO = -2, FULL = -3, NONE = -4;
    private static final int A_NEW_LINE = 10;
    private static final String MARKS = "<>{}()[]\"'";
    private static final String[] NAMES = {"north", "east", "south", "west"};
    private static int checked = 0;
    private static int wrong = 0;
    private static String sentence = "";

    public static void main(String[] args) {
        textOfNone();
        textOfAll();
        textToBeLaid();
        firstFault();
        speechOfNone();
        speechOfAll();
        namesOfTongues();
        everyMarkAtEveryDepth();
        sixDeep();
        backToDepthNone();
        dueBehindABreak();
        dueAndNotMet();
        dueAtTheLastSign();
        twoWrongsAtAPlace();
        leftOpen();
        quotesWithin();
        lettersByDepth();
        paragraphs();
        weightsDecide();
        greatestLeast();
        mendedAtTheEdges();
        firstOfSeveralWays();
        mendedBeyondAll();
        everyChangeUndone();
        sixUndone();
        laidIsNotUndone();
        refusedIsNoChange();
        retoldAtEveryDepth();
        wouldChangesNothing();
        asItIsThen();
        lastPromisedCall();
        objectsApart();
        System.out.println("EdgesTest: " + checked + " looked at, " + wrong + " wrong");
        if (wrong != 0) {
            System.exit(1);
        }
    }

    private static void due(String what, Object got, Object want) {
        checked++;
        if (!got.equals(want)) {
            wrong++;
            System.out.println(sentence + ": " + what + " answered [" + got + "], due is [" + want + "]");
        }
    }

    private static void weigh(Run run, int putIn, int takenOut, int another) {
        run.tell("weigh", 0, putIn);
        run.tell("weigh", 1, takenOut);
        run.tell("weigh", 2, another);
    }

    private static String changes(Run run) {
        return run.ask("changes", 0) + " " + run.ask("changes", 1) + " " + run.ask("changes", 2);
    }

    // ---- the text

    private static void textOfNone() {
        sentence = "the text with 0 letters";
        Run run = new Run();
        due("count(7)", run.ask("count", 7), 0);
        due("wipe", run.tell("wipe"), 0);
        due("fault", run.ask("fault"), NONE);
        due("speak", run.tell("speak"), NONE);
        due("lay", run.tell("lay"), 0);
        due("write", run.tell("write", 'a'), 1);
        due("wipe of one", run.tell("wipe"), 1);
        due("wiped", run.ask("count", 7), 0);
        run = Run.laid("<a>");
        run.tell("put", 0, 'b');
        run.tell("wipe");
        due("lay of none upon a speech", run.tell("lay"), 0);
        due("the speech", run.speech(), "");
        due("undone", run.tell("undo"), NO);
    }

    private static void textOfAll() {
        sentence = "the text with 200 letters";
        Run run = new Run();
        for (int i = 1; i <= 200; i++) {
            due("write", run.tell("write", 'a'), i);
        }
        due("the 201st", run.tell("write", 'a'), FULL);
        due("fault", run.ask("fault"), 120);
        due("lay", run.tell("lay"), NO);
        due("speak", run.tell("speak"), NONE);
        due("wipe", run.tell("wipe"), 200);
        due("fault of none", run.ask("fault"), NONE);
        due("write", run.tell("write", '<'), 1);
        due("lay", run.tell("lay"), 1);
        due("the speech", run.speech(), "<");
    }

    private static void textToBeLaid() {
        sentence = "120 letters at most are laid";
        for (int many : new int[] {1, 119, 120}) {
            Run run = new Run();
            run.write("b".repeat(many - 1) + "<");
            due("fault of " + many, run.ask("fault"), NONE);
            due("lay of " + many, run.tell("lay"), many);
            due("the speech", run.speech(), "b".repeat(many - 1) + "<");
            due("the text stays", run.ask("count", 7), many);
        }
        for (int many : new int[] {121, 122, 200}) {
            Run run = Run.laid("ok");
            run.write("b".repeat(many));
            due("fault of " + many, run.ask("fault"), 120);
            due("lay of " + many, run.tell("lay"), NO);
            due("the speech stays", run.speech(), "ok");
            due("the text stays", run.ask("count", 7), many);
        }
        Run run = Run.laid("a".repeat(120));
        run.write("<");
        due("a short one upon a long one", run.tell("lay"), 1);
        due("the speech", run.speech(), "<");
        due("wrongs", run.wrongs(), "1:4");
    }

    private static void firstFault() {
        sentence = "the first letter that is no sign, or that is the 121st";
        for (int letter = 32; letter <= 126; letter++) {
            boolean sign = letter >= 'a' && letter <= 'z' || letter == ' ' || letter == '|'
                || MARKS.indexOf(letter) >= 0;
            Run run = new Run();
            run.tell("write", letter);
            due("fault of " + (char) letter, run.ask("fault"), sign ? NONE : 0);
            due("lay of " + (char) letter, run.tell("lay"), sign ? 1 : NO);
        }
        String[] texts = {"A", "aA", "aAB", "a".repeat(119) + "A", "a".repeat(120) + "A", "a".repeat(121) + "A",
            "a".repeat(119) + "AA", "a".repeat(199) + "A", "A" + "a".repeat(199)};
        int[] places = {0, 1, 1, 119, 120, 120, 119, 120, 0};
        for (int i = 0; i < texts.length; i++) {
            Run run = new Run();
            run.write(texts[i]);
            due("fault", run.ask("fault"), places[i]);
            due("lay", run.tell("lay"), NO);
        }
    }

    // ---- the speech

    private static void speechOfNone() {
        sentence = "the speech with 0 signs";
        Run run = new Run();
        for (String name : new String[] {"sign", "kind", "depth", "partner", "take"}) {
            due(name + "(0)", run.tell(name, 0), BAD);
            due(name + "(-1)", run.tell(name, -1), BAD);
        }
        due("alter(0)", run.tell("alter", 0, 'a'), BAD);
        due("put(1)", run.tell("put", 1, 'a'), BAD);
        due("put(-1)", run.tell("put", -1, 'a'), BAD);
        due("wrongs", run.wrongs(), "");
        due("quotes", run.ask("quote", -1, 0), 0);
        due("paragraphs", run.ask("paragraph", -1, 0), 1);
        for (int what = 0; what < 3; what++) {
            due("the paragraph", run.ask("paragraph", 0, what), 0);
            due("changes", run.ask("changes", what), 0);
        }
        for (int d = 0; d <= 6; d++) {
            due("said", run.ask("said", d), 0);
        }
        due("least", run.ask("least"), 0);
        due("mended", run.ask("mended", -1), 0);
        due("mended(0)", run.ask("mended", 0), NONE);
        due("mend", run.tell("mend"), NO);
        for (int tongue = 0; tongue < 4; tongue++) {
            for (int rule = 0; rule < 3; rule++) {
                due("would", run.ask("would", tongue, rule), 0);
            }
        }
        due("retell", run.tell("retell", 3), 0);
        due("undone", run.ask("count", 8), 1);
        due("put(0)", run.tell("put", 0, '|'), 1);
        due("take(0)", run.tell("take", 0), (int) '|');
        due("sign(0)", run.ask("sign", 0), BAD);
        due("signs", run.ask("count", 0), 0);
    }

    private static void speechOfAll() {
        sentence = "the speech with 120 signs";
        Run run = Run.laid("<" + "a".repeat(117) + ">");
        due("the 120th at its end", run.copy().tell("put", 119, 'b'), 120);
        due("the 120th ahead of it", run.copy().tell("put", 0, 'b'), 120);
        due("put(120) of 119", run.copy().tell("put", 120, 'b'), BAD);
        run.tell("put", 118, '|');
        due("the first", run.ask("sign", 0), (int) '<');
        due("the last", run.ask("sign", 119), (int) '>');
        due("behind the last", run.ask("sign", 120), BAD);
        due("kind of the last", run.ask("kind", 119), 4);
        due("depth at the last", run.ask("depth", 119), 0);
        due("partner of the first", run.ask("partner", 0), 119);
        due("partner of the last", run.ask("partner", 119), 0);
        due("wrongs", run.wrongs(), "119:3");
        due("full", run.tell("put", 120, 'a'), FULL);
        due("full", run.tell("put", 0, 'a'), FULL);
        due("bad ahead of full", run.tell("put", 121, 'a'), BAD);
        due("bad ahead of full", run.tell("put", 120, A_NEW_LINE), BAD);
        due("alter at full", run.tell("alter", 119, '}'), (int) '>');
        due("take at full", run.tell("take", 119), (int) '}');
        due("room again", run.tell("put", 119, '>'), 120);
        due("the last", run.ask("sign", 119), (int) '>');
        due("take the first", run.tell("take", 0), (int) '<');
        due("signs", run.ask("count", 0), 119);
        due("the last moved", run.ask("sign", 118), (int) '>');
        due("none behind it", run.ask("sign", 119), BAD);
        due("a speech of letters", Run.laid("z".repeat(120)).ask("said", 0), 120);
        due("a speech of marks", Run.laid("<>".repeat(60)).ask("count", 1), 120);
    }

    // ---- reading

    private static void namesOfTongues() {
        sentence = "tongues, by their names; at first north";
        due("at first", new Run().ask("count", 2), 0);
        for (int from = 0; from < 4; from++) {
            for (int to = 0; to < 4; to++) {
                Run run = new Run();
                run.write(NAMES[from]);
                run.tell("speak");
                run.write(NAMES[to]);
                due(NAMES[from] + " to " + NAMES[to], run.tell("speak"), from == to ? NO : to);
                due("tongue", run.ask("count", 2), to);
            }
        }
    }

    /** Of each tongue: what each of the ten marks is at the depths 0, 1, 2 (o opens, c closes, 1, 2 wrong). */
    private static void everyMarkAtEveryDepth() {
        sentence = "a mark closes, opens, or is wrong";
        String[][] want = {
            {"o111222222", "1co1222222", "o11c222222"},
            {"22222222o1", "22222222co", "22222222oc"},
            {"2222o11122", "22221co122", "2222o11c22"},
            {"222222221o", "22222222oc", "22222222co"},
        };
        String[] ahead = {"<{", "\"'", "([", "'\""};
        for (int tongue = 0; tongue < 4; tongue++) {
            for (int d = 0; d <= 2; d++) {
                StringBuilder got = new StringBuilder();
                for (int i = 0; i < MARKS.length(); i++) {
                    got.append(whatItIs(tongue, ahead[tongue].substring(0, d), MARKS.charAt(i)));
                }
                due(NAMES[tongue] + " at " + d, got.toString(), want[tongue][d]);
            }
        }
    }

    private static char whatItIs(int tongue, String ahead, char mark) {
        Run run = Run.laid(NAMES[tongue], 1, ahead + mark);
        int place = ahead.length();
        int depth = run.ask("depth", place);
        switch (run.ask("kind", place)) {
            case 3: return depth == place + 1 ? 'o' : '?';
            case 4: return depth == place - 1 ? 'c' : '?';
            case 6: return depth == place && run.ask("wrong", 0, 0) == place ? (char) ('0' + run.ask("wrong", 0, 1)) : '?';
            default: return '?';
        }
    }

    private static void sixDeep() {
        sentence = "depth is 0 to 6";
        String[] deep = {"<{<{<{", "\"'\"'\"'", "([([([", "'\"'\"'\""};
        String[] back = {"}>}>}>", "'\"'\"'\"", "])])])", "\"'\"'\"'"};
        char[] seventh = {'<', '"', '(', '\''};
        for (int tongue = 0; tongue < 4; tongue++) {
            Run run = Run.laid(NAMES[tongue], 1, deep[tongue] + back[tongue]);
            due("six open and close", run.kinds(), "333333444444");
            due("depths", run.depths(), "123456543210");
            due("wrongs", run.wrongs(), "");
            due("greatest", run.ask("count", 9), 6);
            due("behind the last", run.ask("count", 10), 0);
            due("least", run.ask("least"), 0);
            run = Run.laid(NAMES[tongue], 1, deep[tongue] + seventh[tongue] + back[tongue]);
            due("the seventh does not open", run.kinds(), "3333336444444");
            due("depths", run.depths(), "1234566543210");
            due("wrongs", run.wrongs(), "6:1");
            due("greatest", run.ask("count", 9), 6);
            due("quotes", run.ask("quote", -1, 0), 6);
            due("level", run.ask("quote", 5, 2), 6);
            run = Run.laid(NAMES[tongue], 1, deep[tongue].substring(0, 5));
            due("five", run.ask("count", 9) + run.ask("count", 10), 10);
            due("the sixth opens", run.tell("put", 5, deep[tongue].charAt(5)), 6);
            due("six", run.ask("count", 9) + run.ask("count", 10), 12);
        }
    }

    private static void backToDepthNone() {
        sentence = "a closer at depth 0 is wrong";
        due("north", Run.laid(">}").wrongs(), "0:1 1:1");
        due("south", Run.laid("south", 1, ")]").wrongs(), "0:1 1:1");
        due("behind a quote", Run.laid("<>>").wrongs(), "2:1");
        due("depth stays 0", Run.laid("<>>").depths(), "100");
        due("east's opens again", Run.laid("east", 1, "\"\"\"").kinds(), "343");
        due("west's opens again", Run.laid("west", 1, "'''").kinds(), "343");
    }

    private static void dueBehindABreak() {
        sentence = "behind a break at depth d are due";
        String deep = "<{<{<{";
        for (int d = 0; d <= 6; d++) {
            String ahead = deep.substring(0, d);
            String threes = "3".repeat(d);
            due("by 0 nothing", Run.laid("north", 0, ahead + "|a").kinds(), threes + "20");
            due("by 0 no wrong", Run.laid("north", 0, ahead + "|a").wrongs(), d == 0 ? "" : (d + 2) + ":4");
            Run one = Run.laid("north", 1, ahead + "|<a");
            due("by 1 one", one.kinds(), threes + (d == 0 ? "230" : "250"));
            due("by 1 no wrong", one.wrongs(), (d + 3) + ":4");
            due("by 1 depth", one.ask("count", 10), d == 0 ? 1 : d);
            Run all = Run.laid("north", 2, ahead + "|" + ahead + "a");
            due("by 2 all", all.kinds(), threes + "2" + "5".repeat(d) + "0");
            due("by 2 no wrong", all.wrongs(), d == 0 ? "" : (2 * d + 2) + ":4");
            due("by 2 depth", all.ask("count", 10), d);
            due("renewers", all.ask("paragraph", 1, 2), d);
        }
        due("at first 1", Run.laid("<|<|<>").wrongs(), "");
        due("a due mark renews and does not close", Run.laid("east", 1, "\"|\"\"").kinds(), "3254");
        due("nor open", Run.laid("west", 2, "'\"|'\"\"'").kinds(), "3325544");
        due("one more than due opens", Run.laid("north", 1, "<{|<<>}>").kinds(), "33253444");
    }

    private static void dueAndNotMet() {
        sentence = "else it is wrong by 3, nothing is due any more, and it is read as if nothing were";
        due("a letter", Run.laid("<|a<>").wrongs(), "2:3 3:1");
        due("a letter is a letter", Run.laid("<|a>").kinds(), "3204");
        due("a blank", Run.laid("<| >").kinds() + " " + Run.laid("<| >").wrongs(), "3214 2:3");
        due("a break", Run.laid("<||<>").kinds() + " " + Run.laid("<||<>").wrongs(), "32254 2:3");
        due("what closes", Run.laid("<|>").kinds() + " " + Run.laid("<|>").wrongs(), "324 2:3");
        due("what opens", Run.laid("<|{}>").kinds() + " " + Run.laid("<|{}>").wrongs(), "32344 2:3");
        due("the second of two", Run.laid("north", 2, "<{|<a}>").wrongs(), "4:3");
        due("the first of two", Run.laid("north", 2, "<{|a}>").wrongs(), "3:3");
        due("the last of six", Run.laid("north", 2, "<{<{<{|<{<{<}>}>}>").wrongs(), "12:3");
        due("the last of six is met", Run.laid("north", 2, "<{<{<{|<{<{<{}>}>}>").wrongs(), "");
        due("one more than six", Run.laid("north", 2, "<{<{<{|<{<{<{<}>}>}>").wrongs(), "13:1");
    }

    private static void dueAtTheLastSign() {
        sentence = "behind the last sign: if something is due, wrong by 3, then by 4";
        due("by 1", Run.laid("<|").wrongs(), "2:3 2:4");
        due("by 0", Run.laid("north", 0, "<|").wrongs(), "2:4");
        due("by 2", Run.laid("north", 2, "<|").wrongs(), "2:3 2:4");
        due("half of it", Run.laid("north", 2, "<{|<").wrongs(), "4:3 4:4");
        due("all of it", Run.laid("north", 2, "<{|<{").wrongs(), "5:4");
        due("at depth 0", Run.laid("<>|").wrongs(), "");
        due("a break alone", Run.laid("|").wrongs(), "");
        due("two breaks", Run.laid("<||").wrongs(), "2:3 3:3 3:4");
        Run run = Run.laid("a".repeat(118) + "<|");
        due("at place 120", run.wrongs(), "120:3 120:4");
        due("the paragraph behind it", run.ask("paragraph", 1, 0), 1);
        due("its renewers", run.ask("paragraph", 1, 2), 0);
        due("least", run.ask("least"), 1);
        due("the mark stays, and is closed", run.mended(), "a".repeat(118) + "<>|");
        run = Run.laid("<|");
        weigh(run, 1, 9, 9);
        due("closed ahead of the break", run.mended(), "<>|");
        due("least", run.ask("least"), 1);
    }

    private static void twoWrongsAtAPlace() {
        sentence = "a place may have two: by 3, then by 1 or 2 or 4";
        due("by 1", Run.laid("<|}>").wrongs(), "2:3 2:1");
        due("by 2", Run.laid("<|'>").wrongs(), "2:3 2:2");
        due("by 4", Run.laid("a<|").wrongs(), "3:3 3:4");
        due("kind", Run.laid("<|}>").ask("kind", 2), 6);
        Run most = Run.laid("<" + "|)".repeat(59) + "|");
        due("wrongs", most.ask("wrong", -1, 0), 120);
        due("the last but one", most.ask("wrong", 118, 0) + ":" + most.ask("wrong", 118, 1), "120:3");
        due("the last", most.ask("wrong", 119, 0) + ":" + most.ask("wrong", 119, 1), "120:4");
        due("not so many", most.ask("wrong", 120, 0), NONE);
        Run foreign = Run.laid("(".repeat(120));
        due("120 by 2", foreign.ask("wrong", -1, 0), 120);
        due("the last", foreign.ask("wrong", 119, 0) + ":" + foreign.ask("wrong", 119, 1), "119:2");
        Run breaks = Run.laid("<" + "|".repeat(119));
        due("by 3 at each break but the first, and two at the end", breaks.ask("wrong", -1, 0), 120);
        due("the first", breaks.ask("wrong", 0, 0), 2);
    }

    private static void leftOpen() {
        sentence = "a quote left open goes to the end";
        Run run = Run.laid("a<b|<{c|<d");
        int[][] want = {{1, NONE, 1, 3, 1, 2, 1}, {5, NONE, 2, 2, 2, 1, 0}};
        for (int i = 0; i < 2; i++) {
            for (int what = 0; what < 7; what++) {
                due("quote " + i + " " + what, run.ask("quote", i, what), want[i][what]);
            }
            due("partner", run.ask("partner", want[i][0]), NONE);
        }
        due("wrongs", run.wrongs(), "10:4");
        due("behind the last", run.ask("count", 10), 2);
        run.tell("put", 10, '}');
        due("the inner is closed", run.ask("quote", 1, 1), 10);
        due("the outer is not", run.ask("quote", 0, 1), NONE);
        due("partner", run.ask("partner", 5), 10);
        due("partner", run.ask("partner", 10), 5);
        run = Run.laid("<" + "z".repeat(119));
        due("to the 120th", run.ask("quote", 0, 3), 119);
        due("wrongs", run.wrongs(), "120:4");
        run = Run.laid("z".repeat(119) + "<");
        due("opened by the 120th", run.ask("quote", 0, 0), 119);
        due("letters", run.ask("quote", 0, 3), 0);
        due("left open", run.ask("quote", 0, 1), NONE);
    }

    private static void quotesWithin() {
        sentence = "quotes are numbered as they open";
        Run run = Run.laid("<{<{<{a}>}>}>");
        for (int i = 0; i < 6; i++) {
            int[] want = {i, 12 - i, i + 1, 1, i == 5 ? 1 : 0, 0, 5 - i};
            for (int what = 0; what < 7; what++) {
                due("quote " + i + " " + what, run.ask("quote", i, what), want[what]);
            }
        }
        due("not so many", run.ask("quote", 6, 0), NONE);
        run = Run.laid("<{}{}{}><>");
        due("within", run.ask("quote", 0, 6), 3);
        due("within the last", run.ask("quote", 4, 6), 0);
        due("the last", run.ask("quote", 4, 0), 8);
        run = Run.laid("<>".repeat(60));
        due("sixty", run.ask("quote", -1, 0), 60);
        due("the sixtieth", run.ask("quote", 59, 0), 118);
        due("no more", run.ask("quote", 60, 0), NONE);
        run = Run.laid("north", 0, "|<|a|>|");
        due("breaks in it", run.ask("quote", 0, 5), 2);
        due("a letter in it", run.ask("quote", 0, 3), 1);
        run = Run.laid("east", 1, "\"" + "''".repeat(59) + "\"");
        due("fifty-nine within", run.ask("quote", 0, 6), 59);
    }

    private static void lettersByDepth() {
        sentence = "how many letters the speech has at a depth (0 to 6)";
        Run run = Run.laid("z<a{bb<ccc{dddd<eeeee{ffffff <f}g>h}i>j}k>l");
        int[] want = {2, 2, 3, 4, 5, 6, 7};
        for (int d = 0; d <= 6; d++) {
            due("said " + d, run.ask("said", d), want[d]);
        }
        due("below 0", run.ask("said", -1), BAD);
        due("above 6", run.ask("said", 7), BAD);
        due("blanks and breaks are no letters", Run.laid(" | |").ask("said", 0), 0);
        due("a and z are", Run.laid("az").ask("said", 0), 2);
    }

    private static void paragraphs() {
        sentence = "1 more than breaks";
        Run run = Run.laid("|");
        due("of one break", run.ask("paragraph", -1, 0), 2);
        due("the second", run.ask("paragraph", 1, 1), 0);
        due("no third", run.ask("paragraph", 2, 0), NONE);
        run = Run.laid("|".repeat(120));
        due("of 120 breaks", run.ask("paragraph", -1, 0), 121);
        due("the last", run.ask("paragraph", 120, 1), 0);
        due("no more", run.ask("paragraph", 121, 1), NONE);
        run = Run.laid("<" + "|".repeat(119));
        due("of 119 breaks", run.ask("paragraph", -1, 0), 120);
        due("depth of the last", run.ask("paragraph", 119, 0), 1);
        run = Run.laid("<" + "|".repeat(118) + "<");
        due("renewers of the last", run.ask("paragraph", 118, 2), 1);
        run = Run.laid("|".repeat(119) + "a");
        due("letters of the last", run.ask("paragraph", 119, 1), 1);
        run = Run.laid("north", 2, "a<{<{<{bc|<{<{<{d}>}>}>|ef");
        due("the first", run.ask("paragraph", 0, 0) + " " + run.ask("paragraph", 0, 1) + " " + run.ask("paragraph", 0, 2), "0 3 0");
        due("at 6", run.ask("paragraph", 1, 0) + " " + run.ask("paragraph", 1, 1) + " " + run.ask("paragraph", 1, 2), "6 1 6");
        due("at 0 again", run.ask("paragraph", 2, 0) + " " + run.ask("paragraph", 2, 1) + " " + run.ask("paragraph", 2, 2), "0 2 0");
        run = Run.laid("north", 2, "<{||<{|<a");
        due("nothing renewed", run.ask("paragraph", 1, 2), 0);
        due("all renewed", run.ask("paragraph", 2, 2), 2);
        due("half renewed", run.ask("paragraph", 3, 2), 1);
    }

    // ---- mended

    private static void weightsDecide() {
        sentence = "weights, 1 to 9 each, 1 at first";
        for (int which = 0; which < 3; which++) {
            Run run = new Run();
            due("at first", run.ask("count", 4 + which), 1);
            due("0", run.tell("weigh", which, 0), BAD);
            due("1", run.tell("weigh", which, 1), NO);
            due("9", run.tell("weigh", which, 9), 1);
            due("10", run.tell("weigh", which, 10), BAD);
            due("9 again", run.tell("weigh", which, 9), NO);
            due("8", run.tell("weigh", which, 8), 9);
            due("1", run.tell("weigh", which, 1), 8);
            due("changes", run.ask("count", 8), 3);
        }
        weighed(1, 1, 1, "<a> 1: 0 0 1");
        weighed(1, 1, 2, "<a> 2: 0 0 1");
        weighed(1, 1, 3, "<a> 2: 1 1 0");
        weighed(9, 1, 9, "a 2: 0 2 0");
        weighed(1, 7, 9, "<a> 8: 1 1 0");
        weighed(1, 8, 9, "<a> 9: 0 0 1");
        weighed(9, 9, 9, "<a> 9: 0 0 1");
    }

    private static void weighed(int putIn, int takenOut, int another, String want) {
        Run run = Run.laid("<a)");
        weigh(run, putIn, takenOut, another);
        due(putIn + " " + takenOut + " " + another, run.mended() + " " + run.ask("least") + ": " + changes(run), want);
    }

    private static void greatestLeast() {
        sentence = "least";
        Run run = Run.laid("(".repeat(120));
        due("of 120", run.ask("least"), 120);
        weigh(run, 9, 9, 9);
        due("of 120 for 9", run.ask("least"), 1080);
        due("would be none in south for 60", Run.laid("()".repeat(60)).ask("would", 2, 0), 0);
        run = Run.laid("(".repeat(119));
        weigh(run, 9, 9, 9);
        due("of 119 for 9", run.ask("least"), 1071);
        due("of letters", Run.laid("a".repeat(120)).ask("least"), 0);
        due("of one mark", Run.laid("<").ask("least"), 1);
        due("of two", Run.laid("<<").ask("least"), 1);
    }

    private static void mendedAtTheEdges() {
        sentence = "mended goes no deeper than 6";
        Run run = Run.laid("<{<{<{<a>}>}>}>");
        due("least", run.ask("least"), 2);
        due("mended", run.mended(), "<{<{<{}a>}>}><>");
        due("changes", changes(run), "0 0 2");
        weigh(run, 9, 1, 9);
        due("taken out", run.mended(), "<{<{<{a}>}>}>");
        due("changes", changes(run), "0 2 0");
        sentence = "mended puts in anywhere";
        run = Run.laid("a>");
        weigh(run, 1, 9, 9);
        due("ahead of the last", run.mended(), "a<>");
        run = Run.laid(">a");
        weigh(run, 1, 9, 9);
        due("ahead of the first", run.mended(), "<>a");
        run = Run.laid("<a");
        weigh(run, 1, 9, 9);
        due("in the end", run.mended(), "<a>");
        run = Run.laid("}>}>}>");
        weigh(run, 1, 9, 9);
        due("ahead of every other one", run.mended(), "<{}><{}><{}>");
        run = Run.laid("<{<{<{");
        weigh(run, 1, 9, 9);
        due("six in the end", run.mended(), "<{<{<{}>}>}>");
        run = Run.laid("<{<{<}>}>}>");
        weigh(run, 1, 9, 9);
        due("the sixth opener", run.mended() + " " + run.ask("least"), "<{<{<{}>}>}> 1");
        run = Run.laid("<{<{<{>}>}>");
        weigh(run, 1, 9, 9);
        due("the sixth closer", run.mended() + " " + run.ask("least"), "<{<{<{}>}>}> 1");
        run = Run.laid("north", 2, "<{<{<{|}>}>}>");
        weigh(run, 1, 9, 9);
        due("six due", run.mended(), "<{<{<{|<{<{<{}>}>}>");
        due("least", run.ask("least"), 6);
        due("changes", changes(run), "6 0 0");
        sentence = "letters, blanks, breaks stay, in their order";
        due("mended", Run.laid("(b)| a|(").mended(), "<b>| a|");
    }

    private static void firstOfSeveralWays() {
        sentence = "of several ways the first";
        due("stays ahead of taken out", Run.laid("<{>").mended(), "<{}>");
        due("becomes what is due ahead of taken out", Run.laid("<|)a>").mended(), "<|<a>");
        due("becomes opener ahead of closer", Run.laid("<))>").mended(), "<{}>");
        due("becomes closer ahead of taken out", Run.laid("<a)").mended(), "<a>");
        due("taken out ahead of put in", Run.laid(">").mended(), "");
        Run run = Run.laid("north", 2, "<{|a}>");
        weigh(run, 1, 2, 2);
        due("due is put in", run.mended(), "<{|<{a}>");
        due("becomes, and the next stays ahead of taken out", Run.laid("({a>").mended(), "<{a}>");
        run = Run.laid(">a>");
        weigh(run, 1, 1, 9);
        due("taken out, and the next stays ahead of put in", run.mended() + " " + changes(run), "a 0 2 0");
        run = Run.laid("a|b>");
        weigh(run, 1, 9, 9);
        due("opened as late as may be", run.mended(), "a|b<>");
        run = Run.laid("{");
        weigh(run, 1, 3, 9);
        due("taken out ahead of as dear a putting in", run.mended() + " " + changes(run), " 0 1 0");
        run = Run.laid("{");
        weigh(run, 1, 4, 9);
        due("opener put in, then closers", run.mended() + " " + changes(run), "<{}> 3 0 0");
        run = Run.laid("{");
        weigh(run, 1, 2, 1);
        due("becomes opener, ahead of taken out", run.mended() + " " + changes(run), "<> 1 0 1");
    }

    private static void mendedBeyondAll() {
        sentence = "mended has more than 120 signs";
        Run run = Run.laid("a".repeat(118) + "<a");
        run.tell("weigh", 1, 9);
        due("121", run.ask("mended", -1), 121);
        due("the 121st", run.ask("mended", 120), (int) '>');
        due("no 122nd", run.ask("mended", 121), NONE);
        due("mend", run.tell("mend"), FULL);
        due("changes", run.ask("count", 8), 1);
        due("signs", run.ask("count", 0), 120);
        run.tell("take", 0);
        due("120", run.ask("mended", -1), 120);
        due("mend", run.tell("mend"), 1);
        due("signs", run.ask("count", 0), 120);
        due("the last", run.ask("sign", 119), (int) '>');
        due("wrongs", run.wrongs(), "");
        due("undone", run.tell("undo"), 2);
        due("signs", run.ask("count", 0), 119);
        due("120 that become others", Run.laid("()".repeat(60)).tell("mend"), 120);
        due("120 of which one is taken out", Run.laid("a".repeat(119) + ">").tell("mend"), 1);
        run = Run.laid("{".repeat(120));
        weigh(run, 1, 9, 9);
        int size = run.ask("mended", -1);
        due("far more", size > 240, true);
        due("as many as are put in", size, 120 + run.ask("changes", 0));
        due("least", run.ask("least"), run.ask("changes", 0));
        due("the last", run.ask("mended", size - 1), (int) '>');
        due("no more", run.ask("mended", size), NONE);
        due("mend", run.tell("mend"), FULL);
    }

    // ---- undone

    private static void everyChangeUndone() {
        sentence = "a change can be undone";
        String[] names = {"put", "take", "alter", "mend", "retell", "speak", "rule", "weigh"};
        int[][] numbers = {{0, 'b'}, {0}, {0, '{'}, {}, {2}, {}, {2}, {1, 4}};
        for (int i = 0; i < names.length; i++) {
            for (int ahead : new int[] {0, 1, 5, 6, 7}) {
                Run run = Run.laid("mend".equals(names[i]) ? "<a" : "<a>");
                for (int k = 0; k < ahead; k++) {
                    run.tell("weigh", 0, 9 - k);
                }
                run.write("west");
                String was = run.state();
                int could = run.ask("count", 8);
                due("could be", could, Math.min(ahead, 6));
                due(names[i] + " is taken", run.tell(names[i], numbers[i]) >= 0, true);
                due(names[i] + " changes", run.state().equals(was), false);
                due("can be", run.ask("count", 8), Math.min(could + 1, 6));
                due("undo " + names[i], run.tell("undo"), Math.min(could, 5));
                due("as ahead of it", run.state(), was);
                due("the text stays", run.ask("count", 7), 4);
            }
        }
    }

    private static void sixUndone() {
        sentence = "the last 6 can be undone";
        for (int many = 0; many <= 20; many++) {
            Run run = new Run();
            StringBuilder speech = new StringBuilder();
            for (int i = 0; i < many; i++) {
                run.tell("put", i, 'a' + i);
                speech.append((char) ('a' + i));
                due("can be", run.ask("count", 8), Math.min(i + 1, 6));
            }
            for (int more = Math.min(many, 6) - 1; more >= 0; more--) {
                speech.setLength(speech.length() - 1);
                due("undo", run.tell("undo"), more);
                due("the speech", run.speech(), speech.toString());
            }
            due("no more", run.tell("undo"), NO);
            due("the speech", run.speech(), speech.toString());
            due("can be", run.ask("count", 8), 0);
        }
        Run run = new Run();
        for (int i = 0; i < 4; i++) {
            run.tell("put", i, "abcd".charAt(i));
        }
        due("undo", run.tell("undo"), 3);
        due("undo", run.tell("undo"), 2);
        for (int i = 0; i < 5; i++) {
            run.tell("put", 2 + i, "efghi".charAt(i));
        }
        due("the speech", run.speech(), "abefghi");
        String[] want = {"abefgh", "abefg", "abef", "abe", "ab", "a"};
        for (int i = 0; i < 6; i++) {
            due("undo", run.tell("undo"), 5 - i);
            due("the speech", run.speech(), want[i]);
        }
        due("no seventh", run.tell("undo"), NO);
        due("the speech", run.speech(), "a");
    }

    private static void laidIsNotUndone() {
        sentence = "laid: nothing can be undone";
        for (int many : new int[] {0, 1, 6, 7}) {
            Run run = Run.laid("ab");
            for (int i = 0; i < many; i++) {
                run.tell("weigh", i % 3, 2 + i);
            }
            run.tell("rule", 2);
            run.write("west");
            run.tell("speak");
            String behind = run.state().substring(run.state().indexOf(']'));
            run.write("<c>");
            due("lay", run.tell("lay"), 3);
            due("can be", run.ask("count", 8), 0);
            due("undo", run.tell("undo"), NO);
            due("tongue, rule, weights stay", run.state(), "[<c>" + behind);
            run.tell("take", 0);
            due("a change behind it", run.tell("undo"), 0);
            due("the speech", run.speech(), "<c>");
            run.tell("put", 3, 'd');
            run.write("c?");
            due("lay refused", run.tell("lay"), NO);
            due("can be still", run.ask("count", 8), 1);
            due("undo", run.tell("undo"), 0);
            due("the speech", run.speech(), "<c>");
        }
    }

    private static void refusedIsNoChange() {
        sentence = "what is refused is no change";
        Run run = Run.laid("<a>");
        run.tell("put", 3, 'b');
        run.write("north");
        due("speak", run.tell("speak"), NO);
        due("rule", run.tell("rule", 1), NO);
        due("weigh", run.tell("weigh", 0, 1), NO);
        due("put", run.tell("put", 5, 'a'), BAD);
        due("take", run.tell("take", 4), BAD);
        due("alter", run.tell("alter", 3, 'b'), NO);
        due("mend", run.tell("mend"), NO);
        due("retell", run.tell("retell", 0), NO);
        due("can be", run.ask("count", 8), 1);
        due("undo", run.tell("undo"), 0);
        due("the speech", run.speech(), "<a>");
        due("undo refused", run.tell("undo"), NO);
        due("undo refused again", run.tell("undo"), NO);
        run.tell("put", 0, 'c');
        due("can be", run.ask("count", 8), 1);
    }

    // ---- told in another tongue

    private static void retoldAtEveryDepth() {
        sentence = "each becomes that of the other tongue for the same depth";
        String[] told = {
            "a<{<{<{b|<{<{<{c}>}>}> |<d>",
            "a\"'\"'\"'b|\"'\"'\"'c'\"'\"'\" |\"d\"",
            "a([([([b|([([([c])])]) |(d)",
            "a'\"'\"'\"b|'\"'\"'\"c\"'\"'\"' |'d'",
        };
        for (int from = 0; from < 4; from++) {
            for (int to = 0; to < 4; to++) {
                Run run = Run.laid(NAMES[from], 2, told[from]);
                due("wrongs", run.wrongs(), "");
                String kinds = run.kinds();
                due(NAMES[from] + " as " + NAMES[to], run.tell("retell", to), from == to ? NO : from);
                due("the speech", run.speech(), told[to]);
                due("tongue", run.ask("count", 2), to);
                due("read the same", run.kinds(), kinds);
                due("wrongs", run.wrongs(), "");
                due("changes", run.ask("count", 8), from == to ? 0 : 1);
            }
        }
        Run run = Run.laid("<>".repeat(60));
        due("120 signs", run.tell("retell", 3), 0);
        due("the speech", run.speech(), "'".repeat(120));
        run = Run.laid("a".repeat(120));
        due("no marks", run.tell("retell", 1), 0);
        due("the speech", run.speech(), "a".repeat(120));
        run = Run.laid("<a>b)");
        due("one wrong", run.tell("retell", 2), NO);
        run.tell("take", 4);
        due("no wrong", run.tell("retell", 2), 0);
        due("the speech", run.speech(), "(a)b");
    }

    private static void wouldChangesNothing() {
        sentence = "what least would be by a tongue and a rule";
        Run run = Run.laid("<a{b|<c}>");
        int[][] want = {{1, 0, 1}, {5, 5, 5}, {5, 5, 5}, {5, 5, 5}};
        for (int tongue = 0; tongue < 4; tongue++) {
            for (int rule = 0; rule < 3; rule++) {
                due("would " + tongue + " " + rule, run.ask("would", tongue, rule), want[tongue][rule]);
                due("least still", run.ask("least"), 0);
                due("mended still", run.mended(), "<a{b|<c}>");
            }
        }
        due("state", run.state(), "[<a{b|<c}>] 0 1 1 1 1");
        due("undone", run.ask("count", 8), 0);
        due("tongue and rule", run.ask("would", -1, 3), BAD);
    }

    // ---- the object

    private static void asItIsThen() {
        sentence = "all that is asked is told of the speech as it is then";
        String[] speeches = {"", "a", "<a{b}|<c>", "<{<{<{x|<y", "|||a|b", "((a))[", "<".repeat(120), "z".repeat(120),
            "<>".repeat(30), "\"a'b'\"", "}>|a<|", "<|" + "<|".repeat(50)};
        for (String ahead : speeches) {
            Run old = Run.laid(ahead);
            for (String text : speeches) {
                Run run = old.copy();
                askedOnce(run);
                run.write(text);
                run.tell("lay");
                due("[" + text + "] behind [" + ahead + "]", run.everything(), Run.laid(text).everything());
            }
        }
        for (int tongue = 0; tongue < 4; tongue++) {
            for (int rule = 0; rule < 3; rule++) {
                Run run = Run.laid("<{<{<{x|<{<{<{y");
                askedOnce(run);
                run.tell("rule", rule);
                askedOnce(run);
                run.write(NAMES[tongue]);
                run.tell("speak");
                askedOnce(run);
                String text = "\"'a|(\"'b[<{|<c}>";
                run.write(text);
                run.tell("lay");
                due(NAMES[tongue] + " " + rule, run.everything(), Run.laid(NAMES[tongue], rule, text).everything());
            }
        }
        Run run = Run.laid("<a");
        due("least", run.tell("least"), 1);
        run.tell("put", 2, '>');
        due("behind put", run.tell("least") + " " + run.wrongs(), "0 ");
        run.tell("take", 0);
        due("behind take", run.tell("least") + " " + run.wrongs(), "1 1:1");
        run.tell("alter", 1, 'b');
        due("behind alter", run.tell("least") + " " + run.wrongs(), "0 ");
        run.tell("undo");
        due("behind undo", run.tell("least") + " " + run.wrongs(), "1 1:1");
        run.tell("weigh", 1, 5);
        due("behind weigh", run.tell("least") + " " + run.mended(), "1 a<>");
        run.tell("mend");
        due("behind mend", run.tell("least") + " " + run.wrongs() + run.speech(), "0 a<>");
        run.tell("retell", 2);
        due("behind retell", run.tell("least") + " " + run.wrongs() + run.speech(), "0 a()");
    }

    private static void askedOnce(Run run) {
        run.tell("kind", 0);
        run.tell("least");
        run.tell("would", 3, 2);
        run.tell("mended", 0);
    }

    private static void lastPromisedCall() {
        sentence = "at most 512 calls";
        SpeechMarks x = new SpeechMarks();
        for (int i = 0; i < 255; i++) {
            due("put", x.put(0, '<'), 1);
            due("take", x.take(0), (int) '<');
        }
        due("the 511th", x.put(0, '<'), 1);
        due("the 512th", x.undo(), 5);
        x = new SpeechMarks();
        for (int i = 0; i < 120; i++) {
            x.write("<{}>(|".charAt(i % 6));
        }
        due("lay", x.lay(), 120);
        int first = x.would(0, 2);
        for (int i = 122; i < 512; i++) {
            due("would", x.would(0, 2), first);
        }
    }

    private static void objectsApart() {
        sentence = "a new object";
        SpeechMarks first = new SpeechMarks();
        first.write('<');
        first.lay();
        first.rule(2);
        first.weigh(0, 5);
        first.least();
        SpeechMarks second = new SpeechMarks();
        int[] want = {0, 0, 0, 1, 1, 1, 1, 0, 0, 0, 0};
        for (int what = 0; what <= 10; what++) {
            due("count " + what, second.count(what), want[what]);
        }
        due("undo", second.undo(), NO);
        due("least", second.least(), 0);
        second.put(0, 'b');
        due("the first", first.sign(0), (int) '<');
        due("the first", first.count(4), 5);
        due("the first", first.least(), 1);
    }
}
