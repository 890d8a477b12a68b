import java.util.List;

/**
 * Every refusal that a promise names, in four situations: at the last number that is still taken and
 * at the first that is not, on both sides; which of several is answered; and that nothing that can be
 * asked, and nothing that can be undone, is another one behind it.
 */
public final class RefusalsTest {
    private static final int BAD = -1, NO = -2, FULL = -3, NONE = -4;
    private static final int LOWEST = Integer.MIN_VALUE, HIGHEST = Integer.MAX_VALUE;
    private static final String SIGNS = "abcdefghijklmnopqrstuvwxyz |<>{}()[]\"'";
    private static int checked = 0;
    private static int wrong = 0;
    private static String promise = "";

    /** A run, with all that it tells, so that this is asked but once. */
    private static final class Situation {
        final String name;
        final Run run;
        final List<String> all;
        final int signs;

        Situation(String name, Run run) {
            this.name = name;
            this.run = run;
            all = run.everything();
            signs = run.ask("count", 0);
        }
    }

    private static final Situation NEW = new Situation("a new object", new Run());
    private static final Situation FAULTY = new Situation("east with wrongs", east());
    private static final Situation RIGHT = new Situation("south without wrongs", south());
    private static final Situation CROWDED = new Situation("all full", crowded());
    private static final Situation[] ALL = {NEW, FAULTY, RIGHT, CROWDED};

    /** 6:3 6:2 8:4 are wrong; three changes can be undone. */
    private static Run east() {
        Run run = Run.laid("\"a'b|\"<c");
        run.write("east");
        run.tell("speak");
        run.tell("rule", 2);
        run.tell("weigh", 0, 3);
        run.write("xy");
        return run;
    }

    /** Of seven changes six can be undone; the text is empty. */
    private static Run south() {
        Run run = Run.laid("<a{b}|<c>d");
        run.tell("retell", 2);
        run.tell("weigh", 0, 9);
        run.tell("weigh", 1, 9);
        run.tell("weigh", 2, 9);
        run.tell("put", 10, ' ');
        run.tell("take", 10);
        run.tell("weigh", 0, 8);
        run.write("");
        return run;
    }

    /** 200 letters; 120 signs, to the depth of 6, left open, five marks due; 125 signs mended. */
    private static Run crowded() {
        Run run = Run.laid("<{<{<{" + "a".repeat(112) + "}|");
        run.tell("rule", 2);
        run.tell("weigh", 1, 9);
        run.tell("weigh", 2, 9);
        run.tell("alter", 6, 'b');
        run.tell("alter", 7, 'c');
        run.tell("alter", 8, ' ');
        run.tell("take", 119);
        run.tell("put", 119, '|');
        run.more("z".repeat(80));
        return run;
    }

    public static void main(String[] args) {
        asTheySay();
        write();
        wipeAndFault();
        lay();
        speak();
        rule();
        weigh();
        put();
        take();
        alter();
        undo();
        signAndKindAndDepth();
        partner();
        wrongs();
        quote();
        said();
        paragraph();
        leastAndChanges();
        mended();
        mend();
        would();
        retell();
        count();
        System.out.println("RefusalsTest: " + checked + " looked at, " + wrong + " wrong");
        if (wrong != 0) {
            System.exit(1);
        }
    }

    // ---- how it is looked at

    private static void due(String what, Object got, Object want) {
        checked++;
        if (!got.equals(want)) {
            wrong++;
            System.out.println(promise + ": " + what + " answered " + got + ", due is " + want);
        }
    }

    private static void taken(Situation s, int want, String name, int... numbers) {
        due(Run.words(name, numbers) + " in " + s.name, s.run.copy().tell(name, numbers), want);
    }

    /** The answer, and that nothing changed, with and without what was read and mended ahead of it. */
    private static void refused(Situation s, int want, String name, int... numbers) {
        String what = Run.words(name, numbers) + " in " + s.name;
        Run behind = s.run.copy();
        due(what, behind.tell(name, numbers), want);
        dueTheSame(what, behind.everything(), s.all);
        Run asked = s.run.copy();
        asked.tell("least");
        asked.tell("wrong", -1, 0);
        due(what + ", read ahead of it", asked.tell(name, numbers), want);
        dueTheSame(what + ", read ahead of it", asked.everything(), s.all);
    }

    private static void bad(String name, int... numbers) {
        for (Situation s : ALL) {
            refused(s, BAD, name, numbers);
        }
    }

    private static void dueTheSame(String what, List<String> got, List<String> want) {
        checked++;
        if (got.equals(want)) {
            return;
        }
        wrong++;
        int i = 0;
        while (i < got.size() && i < want.size() && got.get(i).equals(want.get(i))) {
            i++;
        }
        System.out.println(promise + ": behind " + what + " is " + (i < got.size() ? got.get(i) : "less")
            + ", due is " + (i < want.size() ? want.get(i) : "less"));
    }

    // ---- what the situations are

    private static void asTheySay() {
        promise = "the situations";
        due("east", FAULTY.run.state() + " " + FAULTY.run.wrongs(), "[\"a'b|\"<c] 1 2 3 1 1 6:3 6:2 8:4");
        due("undone", FAULTY.run.ask("count", 8), 3);
        due("south", RIGHT.run.state() + RIGHT.run.wrongs(), "[(a[b]|(c)d] 2 1 8 9 9");
        due("undone", RIGHT.run.ask("count", 8), 6);
        due("full", CROWDED.run.wrongs(), "120:3 120:4");
        due("signs", CROWDED.signs, 120);
        due("letters", CROWDED.run.ask("count", 7), 200);
        due("undone", CROWDED.run.ask("count", 8), 6);
        due("mended", CROWDED.run.ask("mended", -1), 125);
    }

    // ---- told

    private static void write() {
        promise = "2 write";
        for (int letter : new int[] {LOWEST, -1, 0, 31, 127, 128, 'a' + 256, 'a' + 65536, HIGHEST}) {
            bad("write", letter);
        }
        for (int letter : new int[] {32, 33, 'A', 'a', 125, 126}) {
            taken(NEW, 1, "write", letter);
            taken(FAULTY, 3, "write", letter);
            taken(RIGHT, 1, "write", letter);
            refused(CROWDED, FULL, "write", letter);
        }
        Run run = new Run();
        run.more("A".repeat(198));
        due("the 199th", run.tell("write", '~'), 199);
        due("the 200th", run.tell("write", ' '), 200);
        due("the 201st", run.tell("write", ' '), FULL);
        due("31 ahead of full", run.tell("write", 31), BAD);
        due("127 ahead of full", run.tell("write", 127), BAD);
        due("the 201st again", run.tell("write", '~'), FULL);
        due("letters", run.ask("count", 7), 200);
    }

    private static void wipeAndFault() {
        promise = "3 wipe";
        taken(NEW, 0, "wipe");
        taken(FAULTY, 2, "wipe");
        taken(RIGHT, 0, "wipe");
        taken(CROWDED, 200, "wipe");
        promise = "4 fault";
        refused(NEW, NONE, "fault");
        refused(FAULTY, NONE, "fault");
        refused(RIGHT, NONE, "fault");
        taken(CROWDED, 120, "fault");
    }

    private static void lay() {
        promise = "5 lay";
        refused(CROWDED, NO, "lay");
        for (Situation s : new Situation[] {NEW, FAULTY, RIGHT}) {
            for (String text : new String[] {"A", "Ab", "bA", "a~b", "a".repeat(121), "a".repeat(119) + "?"}) {
                Run run = s.run.copy();
                run.write(text);
                refused(new Situation(s.name + " and the text " + text, run), NO, "lay");
            }
        }
    }

    private static void speak() {
        promise = "6 speak";
        for (Situation s : ALL) {
            refused(s, NONE, "speak");
        }
        String[] none = {"n", "nort", "northe", "north ", " north", "North", "norths", "nortH", "eas", "eastt",
            "East", "sout", "southh", "wes", "westt", "West", "0", "outh", "northeast"};
        for (String text : none) {
            Run run = FAULTY.run.copy();
            run.write(text);
            refused(new Situation("east and the text " + text, run), NONE, "speak");
        }
        for (Situation s : new Situation[] {NEW, FAULTY, RIGHT}) {
            String[] names = {"north", "east", "south", "west"};
            for (int tongue = 0; tongue < 4; tongue++) {
                Run run = s.run.copy();
                run.write(names[tongue]);
                if (tongue == s.run.ask("count", 2)) {
                    refused(new Situation(s.name + " and its own name", run), NO, "speak");
                } else {
                    due(names[tongue] + " in " + s.name, run.tell("speak"), tongue);
                }
            }
        }
    }

    private static void rule() {
        promise = "7 rule";
        for (int r : new int[] {LOWEST, -2, -1, 3, 4, 256, 65536, HIGHEST}) {
            bad("rule", r);
        }
        for (Situation s : ALL) {
            int now = s.run.ask("count", 3);
            for (int r = 0; r <= 2; r++) {
                if (r == now) {
                    refused(s, NO, "rule", r);
                } else {
                    taken(s, now, "rule", r);
                }
            }
        }
    }

    private static void weigh() {
        promise = "8 weigh";
        for (int which : new int[] {LOWEST, -1, 3, 256, HIGHEST}) {
            bad("weigh", which, 1);
            bad("weigh", which, 9);
        }
        for (int w : new int[] {LOWEST, -1, 0, 10, 257, HIGHEST}) {
            bad("weigh", 0, w);
            bad("weigh", 2, w);
        }
        bad("weigh", -1, 0);
        bad("weigh", 3, 10);
        for (Situation s : ALL) {
            for (int which = 0; which <= 2; which++) {
                int now = s.run.ask("count", 4 + which);
                for (int w = 1; w <= 9; w++) {
                    if (w == now) {
                        refused(s, NO, "weigh", which, w);
                    } else {
                        taken(s, now, "weigh", which, w);
                    }
                }
            }
        }
    }

    private static void put() {
        promise = "9 put";
        for (Situation s : ALL) {
            for (int i : new int[] {LOWEST, -1, s.signs + 1, s.signs + 2, 256, HIGHEST}) {
                refused(s, BAD, "put", i, 'a');
                refused(s, BAD, "put", i, 'A');
            }
            for (int sign : new int[] {LOWEST, -1, 0, 'A', 'a' - 1, '~', 'a' + 256, '<' + 65536, HIGHEST}) {
                refused(s, BAD, "put", 0, sign);
                refused(s, BAD, "put", s.signs, sign);
            }
        }
        for (Situation s : new Situation[] {NEW, FAULTY, RIGHT}) {
            for (int i = 0; i <= s.signs; i++) {
                taken(s, s.signs + 1, "put", i, '>');
            }
        }
        for (int sign : new int[] {'a', 'z', ' ', '|', '<', '\''}) {
            refused(CROWDED, FULL, "put", 0, sign);
            refused(CROWDED, FULL, "put", 60, sign);
            refused(CROWDED, FULL, "put", 120, sign);
        }
        for (int sign = -130; sign <= 400; sign++) {
            taken(NEW, isSign(sign) ? 1 : BAD, "put", 0, sign);
            taken(FAULTY, isSign(sign) ? 9 : BAD, "put", 8, sign);
        }
    }

    private static boolean isSign(int sign) {
        return sign >= 0 && SIGNS.indexOf(sign) >= 0;
    }

    private static void take() {
        promise = "10 take";
        places("take");
        refused(NEW, BAD, "take", 0);
        taken(FAULTY, '"', "take", 0);
        taken(FAULTY, 'c', "take", 7);
        taken(CROWDED, '<', "take", 0);
        taken(CROWDED, '|', "take", 119);
    }

    private static void alter() {
        promise = "11 alter";
        for (Situation s : ALL) {
            for (int i : new int[] {LOWEST, -1, s.signs, s.signs + 1, HIGHEST}) {
                refused(s, BAD, "alter", i, 'q');
                refused(s, BAD, "alter", i, '~');
            }
        }
        for (Situation s : new Situation[] {FAULTY, RIGHT, CROWDED}) {
            for (int sign : new int[] {LOWEST, -1, 0, 'A', 'a' - 1, '~', 'c' + 256, HIGHEST}) {
                refused(s, BAD, "alter", 0, sign);
                refused(s, BAD, "alter", s.signs - 1, sign);
            }
        }
        refused(FAULTY, NO, "alter", 0, '"');
        refused(FAULTY, NO, "alter", 7, 'c');
        refused(CROWDED, NO, "alter", 0, '<');
        refused(CROWDED, NO, "alter", 119, '|');
        taken(CROWDED, '<', "alter", 0, '>');
        taken(CROWDED, '|', "alter", 119, ' ');
        for (int sign = -130; sign <= 400; sign++) {
            taken(FAULTY, sign == 'c' ? NO : isSign(sign) ? 'c' : BAD, "alter", 7, sign);
        }
    }

    private static void undo() {
        promise = "12 undo";
        refused(NEW, NO, "undo");
        taken(FAULTY, 2, "undo");
        taken(RIGHT, 5, "undo");
        taken(CROWDED, 5, "undo");
        for (Situation s : ALL) {
            Run run = s.run.copy();
            for (int more = run.ask("count", 8) - 1; more >= 0; more--) {
                due("undo in " + s.name, run.tell("undo"), more);
            }
            refused(new Situation(s.name + ", all undone", run), NO, "undo");
        }
    }

    // ---- read

    private static void places(String name) {
        for (Situation s : ALL) {
            for (int i : new int[] {LOWEST, -2, -1, s.signs, s.signs + 1, HIGHEST}) {
                refused(s, BAD, name, i);
            }
        }
    }

    private static void signAndKindAndDepth() {
        promise = "13 sign";
        places("sign");
        taken(FAULTY, '"', "sign", 0);
        taken(FAULTY, 'c', "sign", 7);
        taken(CROWDED, '<', "sign", 0);
        taken(CROWDED, '|', "sign", 119);
        promise = "14 kind";
        places("kind");
        taken(FAULTY, 3, "kind", 0);
        taken(FAULTY, 0, "kind", 7);
        taken(CROWDED, 3, "kind", 0);
        taken(CROWDED, 4, "kind", 118);
        taken(CROWDED, 2, "kind", 119);
        promise = "15 depth";
        places("depth");
        taken(FAULTY, 1, "depth", 0);
        taken(FAULTY, 2, "depth", 7);
        taken(CROWDED, 1, "depth", 0);
        taken(CROWDED, 6, "depth", 117);
        taken(CROWDED, 5, "depth", 119);
    }

    private static void partner() {
        promise = "16 partner";
        places("partner");
        refused(FAULTY, NONE, "partner", 0);
        refused(FAULTY, NO, "partner", 1);
        refused(FAULTY, NONE, "partner", 2);
        refused(FAULTY, NO, "partner", 4);
        refused(FAULTY, NO, "partner", 5);
        refused(FAULTY, NO, "partner", 6);
        refused(FAULTY, NO, "partner", 7);
        taken(RIGHT, 8, "partner", 0);
        taken(RIGHT, 4, "partner", 2);
        taken(RIGHT, 2, "partner", 4);
        taken(RIGHT, 0, "partner", 8);
        refused(RIGHT, NO, "partner", 6);
        refused(RIGHT, NO, "partner", 9);
        refused(CROWDED, NONE, "partner", 0);
        refused(CROWDED, NONE, "partner", 4);
        taken(CROWDED, 118, "partner", 5);
        taken(CROWDED, 5, "partner", 118);
        refused(CROWDED, NO, "partner", 119);
    }

    /** Of a call that tells of the i-th of many, by a what of 0 to less than width. */
    private static void lists(String name, int width) {
        int[] whats = {LOWEST, -2, -1, width, width + 1, 256, HIGHEST};
        for (Situation s : ALL) {
            int many = s.run.ask(name, -1, 0);
            for (int what = 0; what < width; what++) {
                refused(s, BAD, name, -2, what);
                taken(s, many, name, -1, what);
                refused(s, NONE, name, many, what);
            }
            refused(s, BAD, name, LOWEST, 0);
            refused(s, BAD, name, LOWEST, width - 1);
            refused(s, NONE, name, many + 1, 0);
            refused(s, NONE, name, HIGHEST, 0);
            refused(s, NONE, name, HIGHEST, width - 1);
            for (int what : whats) {
                refused(s, BAD, name, -2, what);
                refused(s, BAD, name, -1, what);
                refused(s, BAD, name, 0, what);
                refused(s, BAD, name, many, what);
                refused(s, BAD, name, HIGHEST, what);
            }
        }
    }

    private static void wrongs() {
        promise = "17 wrong";
        lists("wrong", 2);
        taken(NEW, 0, "wrong", -1, 0);
        refused(NEW, NONE, "wrong", 0, 0);
        taken(FAULTY, 3, "wrong", -1, 1);
        taken(FAULTY, 6, "wrong", 0, 0);
        taken(FAULTY, 3, "wrong", 0, 1);
        taken(FAULTY, 6, "wrong", 1, 0);
        taken(FAULTY, 2, "wrong", 1, 1);
        taken(FAULTY, 8, "wrong", 2, 0);
        taken(FAULTY, 4, "wrong", 2, 1);
        refused(FAULTY, NONE, "wrong", 3, 0);
        taken(RIGHT, 0, "wrong", -1, 0);
    }

    private static void quote() {
        promise = "18 quote";
        lists("quote", 7);
        taken(NEW, 0, "quote", -1, 0);
        refused(NEW, NONE, "quote", 0, 0);
        taken(FAULTY, 2, "quote", -1, 6);
        taken(FAULTY, 2, "quote", 1, 0);
        taken(FAULTY, 1, "quote", 0, 6);
        refused(FAULTY, NONE, "quote", 0, 1);
        refused(FAULTY, NONE, "quote", 1, 1);
        refused(FAULTY, NONE, "quote", 2, 0);
        taken(RIGHT, 8, "quote", 0, 1);
        taken(CROWDED, 6, "quote", -1, 0);
        refused(CROWDED, NONE, "quote", 4, 1);
        taken(CROWDED, 118, "quote", 5, 1);
        refused(CROWDED, NONE, "quote", 6, 1);
    }

    private static void said() {
        promise = "19 said";
        for (int d : new int[] {LOWEST, -2, -1, 7, 8, 256, HIGHEST}) {
            bad("said", d);
        }
        taken(NEW, 0, "said", 0);
        taken(NEW, 0, "said", 6);
        taken(RIGHT, 1, "said", 0);
        taken(CROWDED, 0, "said", 0);
        taken(CROWDED, 111, "said", 6);
    }

    private static void paragraph() {
        promise = "20 paragraph";
        lists("paragraph", 3);
        taken(NEW, 1, "paragraph", -1, 0);
        taken(NEW, 0, "paragraph", 0, 0);
        taken(NEW, 0, "paragraph", 0, 2);
        refused(NEW, NONE, "paragraph", 1, 0);
        taken(FAULTY, 2, "paragraph", -1, 2);
        taken(FAULTY, 2, "paragraph", 1, 0);
        taken(FAULTY, 1, "paragraph", 1, 2);
        refused(FAULTY, NONE, "paragraph", 2, 2);
        taken(CROWDED, 5, "paragraph", 1, 0);
    }

    // ---- mended

    private static void leastAndChanges() {
        promise = "21 least";
        taken(NEW, 0, "least");
        taken(RIGHT, 0, "least");
        taken(CROWDED, 5, "least");
        promise = "22 changes";
        for (int what : new int[] {LOWEST, -2, -1, 3, 4, 256, HIGHEST}) {
            bad("changes", what);
        }
        taken(CROWDED, 5, "changes", 0);
        taken(CROWDED, 0, "changes", 1);
        taken(CROWDED, 0, "changes", 2);
        taken(NEW, 0, "changes", 0);
        taken(NEW, 0, "changes", 2);
    }

    private static void mended() {
        promise = "23 mended";
        for (Situation s : ALL) {
            int many = s.run.ask("mended", -1);
            refused(s, BAD, "mended", -2);
            refused(s, BAD, "mended", LOWEST);
            refused(s, NONE, "mended", many);
            refused(s, NONE, "mended", many + 1);
            refused(s, NONE, "mended", HIGHEST);
        }
        taken(NEW, 0, "mended", -1);
        taken(RIGHT, '(', "mended", 0);
        taken(RIGHT, 'd', "mended", 9);
        taken(CROWDED, 125, "mended", -1);
        taken(CROWDED, '<', "mended", 0);
        taken(CROWDED, '>', "mended", 119);
        taken(CROWDED, '>', "mended", 123);
        taken(CROWDED, '|', "mended", 124);
    }

    private static void mend() {
        promise = "24 mend";
        refused(NEW, NO, "mend");
        refused(RIGHT, NO, "mend");
        refused(CROWDED, FULL, "mend");
        taken(FAULTY, FAULTY.run.ask("least"), "mend");
        Run run = CROWDED.run.copy();
        for (int i = 0; i < 4; i++) {
            run.tell("take", 6);
        }
        refused(new Situation("121 signs mended", run), FULL, "mend");
        run.tell("take", 6);
        due("120 signs mended", run.tell("mend"), 5);
        due("signs", run.ask("count", 0), 120);
        refused(new Situation("120 signs without wrongs", run), NO, "mend");
    }

    private static void would() {
        promise = "25 would";
        for (int tongue : new int[] {LOWEST, -2, -1, 4, 5, 256, HIGHEST}) {
            bad("would", tongue, 0);
            bad("would", tongue, 2);
            bad("would", tongue, 3);
        }
        for (int rule : new int[] {LOWEST, -2, -1, 3, 4, 256, HIGHEST}) {
            bad("would", 0, rule);
            bad("would", 3, rule);
        }
        for (Situation s : ALL) {
            taken(s, s.run.ask("least"), "would", s.run.ask("count", 2), s.run.ask("count", 3));
        }
        taken(NEW, 0, "would", 0, 0);
        taken(NEW, 0, "would", 3, 2);
        taken(RIGHT, 8, "would", 2, 0);
        taken(RIGHT, 0, "would", 2, 2);
        taken(RIGHT, 45, "would", 3, 2);
    }

    private static void retell() {
        promise = "26 retell";
        for (int tongue : new int[] {LOWEST, -2, -1, 4, 5, 256, HIGHEST}) {
            bad("retell", tongue);
        }
        refused(NEW, NO, "retell", 0);
        taken(NEW, 0, "retell", 1);
        taken(NEW, 0, "retell", 3);
        refused(RIGHT, NO, "retell", 2);
        taken(RIGHT, 2, "retell", 0);
        taken(RIGHT, 2, "retell", 3);
        for (int tongue = 0; tongue <= 3; tongue++) {
            refused(FAULTY, NO, "retell", tongue);
            refused(CROWDED, NO, "retell", tongue);
        }
    }

    private static void count() {
        promise = "27 count";
        for (int what : new int[] {LOWEST, -2, -1, 11, 12, 256, HIGHEST}) {
            bad("count", what);
        }
        int[] crowded = {120, 7, 0, 2, 1, 9, 9, 200, 6, 6, 5};
        int[] right = {10, 5, 2, 1, 8, 9, 9, 0, 6, 2, 0};
        for (int what = 0; what <= 10; what++) {
            taken(CROWDED, crowded[what], "count", what);
            taken(RIGHT, right[what], "count", what);
        }
    }
}
