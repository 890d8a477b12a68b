import java.util.ArrayDeque;
import java.util.ArrayList;
import java.util.Deque;
import java.util.HashSet;
import java.util.List;
import java.util.Random;
import java.util.Set;

/**
 * Random runs against a plain model that follows the document's words with texts and lists, and
 * LEAST of small speeches against a search through all changes that knows nothing but READ.
 */
public final class OracleTest {
    private static final int BAD = -1, NO = -2, FULL = -3, NONE = -4;
    private static final String MARKS = "<>{}()[]\"'";
    private static final String SIGNS = "abcdefghijklmnopqrstuvwxyz |" + MARKS;
    private static final String[] NAMES = {"north", "east", "south", "west"};
    private static final String[] TONGUES = {"<>{}", "\"\"''", "()[]", "''\"\""};
    private static int checked = 0;
    private static int wrong = 0;

    public static void main(String[] args) throws InterruptedException {
        // The model's search goes as deep as a speech is long and as its sum is high.
        Thread thread = new Thread(null, OracleTest::all, "oracle", 1L << 29);
        thread.start();
        thread.join();
        System.out.println("OracleTest: " + checked + " answers looked at, " + wrong + " wrong");
        if (wrong != 0 || checked == 0) {
            System.exit(1);
        }
    }

    private static void all() {
        try {
            for (int seed = 0; seed < 400; seed++) {
                randomRun(seed);
            }
            for (int seed = 0; seed < 1500; seed++) {
                smallSpeech(seed);
            }
            for (int seed = 0; seed < 40; seed++) {
                longSpeech(seed);
            }
        } catch (RuntimeException | StackOverflowError e) {
            wrong++;
            System.out.println("a call threw " + e);
            e.printStackTrace(System.out);
        }
    }

    private static void due(String where, Object got, Object want) {
        checked++;
        if (!got.equals(want)) {
            wrong++;
            if (wrong <= 20) {
                System.out.println(where + " answered " + got + ", due is " + want);
            }
        }
    }

    // ---- the model

    private static char opener(int tongue, int d) {
        return TONGUES[tongue].charAt(d % 2 == 0 ? 0 : 2);
    }

    private static char closer(int tongue, int d) {
        return TONGUES[tongue].charAt(d % 2 == 1 ? 1 : 3);
    }

    private static String dueBehindBreak(int tongue, int rule, int d) {
        StringBuilder all = new StringBuilder();
        if (rule == 1 && d >= 1) {
            all.append(opener(tongue, 0));
        }
        for (int i = 0; rule == 2 && i < d; i++) {
            all.append(opener(tongue, i));
        }
        return all.toString();
    }

    private static boolean isLetter(char c) {
        return c >= 'a' && c <= 'z';
    }

    private static boolean isMark(char c) {
        return MARKS.indexOf(c) >= 0;
    }

    /** READ, word by word. */
    private static final class Read {
        final int[] kind, depth, partner, forDepth;
        final List<int[]> wrongs = new ArrayList<>();
        final List<int[]> quotes = new ArrayList<>();
        int last = 0;

        Read(String s, int tongue, int rule) {
            int n = s.length();
            kind = new int[n];
            depth = new int[n];
            partner = new int[n];
            forDepth = new int[n];
            Deque<Integer> open = new ArrayDeque<>();
            String owed = "";
            int renewed = 0;
            for (int i = 0; i < n; i++) {
                char c = s.charAt(i);
                int d = open.size();
                partner[i] = NO;
                boolean renews = !owed.isEmpty() && c == owed.charAt(0);
                if (renews) {
                    kind[i] = 5;
                    forDepth[i] = renewed++;
                    owed = owed.substring(1);
                } else {
                    if (!owed.isEmpty()) {
                        wrongs.add(new int[] {i, 3});
                        owed = "";
                    }
                    if (isLetter(c)) {
                        kind[i] = 0;
                    } else if (c == ' ') {
                        kind[i] = 1;
                    } else if (c == '|') {
                        kind[i] = 2;
                        owed = dueBehindBreak(tongue, rule, d);
                        renewed = 0;
                    } else if (d >= 1 && c == closer(tongue, d)) {
                        kind[i] = 4;
                        forDepth[i] = d;
                        int q = open.pop();
                        quotes.get(q)[1] = i;
                        partner[i] = quotes.get(q)[0];
                        partner[partner[i]] = i;
                    } else if (d < 6 && c == opener(tongue, d)) {
                        kind[i] = 3;
                        forDepth[i] = d;
                        partner[i] = NONE;
                        open.push(quotes.size());
                        quotes.add(new int[] {i, NONE, d + 1});
                    } else {
                        kind[i] = 6;
                        wrongs.add(new int[] {i, TONGUES[tongue].indexOf(c) >= 0 ? 1 : 2});
                    }
                }
                depth[i] = open.size();
            }
            if (!owed.isEmpty()) {
                wrongs.add(new int[] {n, 3});
            }
            if (!open.isEmpty()) {
                wrongs.add(new int[] {n, 4});
            }
            last = open.size();
        }
    }

    /** The first way in the document's order within a budget, by trying. */
    private static final class Search {
        final String s;
        final int tongue, rule;
        final int[] w;
        final Set<String> hopeless = new HashSet<>();
        final StringBuilder way = new StringBuilder();
        final int[] tally = new int[3];
        int least;

        Search(String s, int tongue, int rule, int[] w) {
            this.s = s;
            this.tongue = tongue;
            this.rule = rule;
            this.w = w;
            least = 0;
            while (!go(0, 0, "", least)) {
                least++;
            }
            way.reverse();
        }

        /** Fills the way from its end, once the end has been reached. */
        private boolean go(int i, int d, String owed, int budget) {
            if (budget < 0) {
                return false;
            }
            if (i == s.length() && d == 0 && owed.isEmpty()) {
                return true;
            }
            String key = i + "," + d + "," + owed + "," + budget;
            if (hopeless.contains(key)) {
                return false;
            }
            boolean found = i < s.length() && (stay(i, d, owed, budget)
                || isMark(s.charAt(i)) && (come(i + 1, d, owed, budget, 2)
                    || tally(1, go(i + 1, d, owed, budget - w[1]))));
            found = found || come(i, d, owed, budget, 0);
            if (!found) {
                hopeless.add(key);
            }
            return found;
        }

        private boolean stay(int i, int d, String owed, int budget) {
            char c = s.charAt(i);
            if (!owed.isEmpty()) {
                return c == owed.charAt(0) && said(c, go(i + 1, d, owed.substring(1), budget));
            }
            if (c == '|') {
                return said(c, go(i + 1, d, dueBehindBreak(tongue, rule, d), budget));
            }
            if (!isMark(c)) {
                return said(c, go(i + 1, d, "", budget));
            }
            if (d >= 1 && c == closer(tongue, d)) {
                return said(c, go(i + 1, d - 1, "", budget));
            }
            return d < 6 && c == opener(tongue, d) && said(c, go(i + 1, d + 1, "", budget));
        }

        private boolean come(int i, int d, String owed, int budget, int which) {
            int rest = budget - w[which];
            if (!owed.isEmpty()) {
                return tally(which, said(owed.charAt(0), go(i, d, owed.substring(1), rest)));
            }
            return d < 6 && tally(which, said(opener(tongue, d), go(i, d + 1, "", rest)))
                || d >= 1 && tally(which, said(closer(tongue, d), go(i, d - 1, "", rest)));
        }

        private boolean said(char c, boolean found) {
            if (found) {
                way.append(c);
            }
            return found;
        }

        private boolean tally(int which, boolean found) {
            if (found) {
                tally[which]++;
            }
            return found;
        }
    }

    private static final class Model {
        String text = "", speech = "";
        int tongue = 0, rule = 1;
        int[] w = {1, 1, 1};
        final Deque<Object[]> past = new ArrayDeque<>();

        void change() {
            past.push(new Object[] {speech, tongue, rule, w.clone()});
            if (past.size() > 6) {
                past.removeLast();
            }
        }

        int undo() {
            if (past.isEmpty()) {
                return NO;
            }
            Object[] was = past.pop();
            speech = (String) was[0];
            tongue = (Integer) was[1];
            rule = (Integer) was[2];
            w = ((int[]) was[3]).clone();
            return past.size();
        }

        String state() {
            return "[" + speech + "] " + tongue + " " + rule + " " + w[0] + " " + w[1] + " " + w[2];
        }

        int write(int c) {
            if (c < 32 || c > 126) {
                return BAD;
            }
            if (text.length() == 200) {
                return FULL;
            }
            text += (char) c;
            return text.length();
        }

        int fault() {
            for (int i = 0; i < text.length(); i++) {
                if (SIGNS.indexOf(text.charAt(i)) < 0 || i == 120) {
                    return i;
                }
            }
            return NONE;
        }

        int lay() {
            if (fault() != NONE) {
                return NO;
            }
            speech = text;
            past.clear();
            return speech.length();
        }

        int speak() {
            for (int t = 0; t < 4; t++) {
                if (NAMES[t].equals(text)) {
                    if (t == tongue) {
                        return NO;
                    }
                    change();
                    tongue = t;
                    return t;
                }
            }
            return NONE;
        }

        int rule(int r) {
            if (r < 0 || r > 2) {
                return BAD;
            }
            if (r == rule) {
                return NO;
            }
            change();
            int was = rule;
            rule = r;
            return was;
        }

        int weigh(int which, int weight) {
            if (which < 0 || which > 2 || weight < 1 || weight > 9) {
                return BAD;
            }
            if (w[which] == weight) {
                return NO;
            }
            change();
            int was = w[which];
            w[which] = weight;
            return was;
        }

        private boolean noPlace(int i) {
            return i < 0 || i >= speech.length();
        }

        private boolean noSign(int c) {
            return c < 0 || c > 127 || SIGNS.indexOf(c) < 0;
        }

        int put(int i, int c) {
            if (noPlace(i) && i != speech.length() || noSign(c)) {
                return BAD;
            }
            if (speech.length() == 120) {
                return FULL;
            }
            change();
            speech = speech.substring(0, i) + (char) c + speech.substring(i);
            return speech.length();
        }

        int take(int i) {
            if (noPlace(i)) {
                return BAD;
            }
            change();
            int was = speech.charAt(i);
            speech = speech.substring(0, i) + speech.substring(i + 1);
            return was;
        }

        int alter(int i, int c) {
            if (noPlace(i) || noSign(c)) {
                return BAD;
            }
            int was = speech.charAt(i);
            if (was == c) {
                return NO;
            }
            change();
            speech = speech.substring(0, i) + (char) c + speech.substring(i + 1);
            return was;
        }

        Read read() {
            return new Read(speech, tongue, rule);
        }

        Search search() {
            return new Search(speech, tongue, rule, w);
        }

        int mend() {
            if (read().wrongs.isEmpty()) {
                return NO;
            }
            Search found = search();
            if (found.way.length() > 120) {
                return FULL;
            }
            change();
            speech = found.way.toString();
            return found.least;
        }

        int would(int t, int r) {
            if (t < 0 || t > 3 || r < 0 || r > 2) {
                return BAD;
            }
            return new Search(speech, t, r, w).least;
        }

        int retell(int t) {
            if (t < 0 || t > 3) {
                return BAD;
            }
            Read read = read();
            if (t == tongue || !read.wrongs.isEmpty()) {
                return NO;
            }
            change();
            StringBuilder told = new StringBuilder(speech);
            for (int i = 0; i < speech.length(); i++) {
                if (read.kind[i] == 3 || read.kind[i] == 5) {
                    told.setCharAt(i, opener(t, read.forDepth[i]));
                } else if (read.kind[i] == 4) {
                    told.setCharAt(i, closer(t, read.forDepth[i]));
                }
            }
            int was = tongue;
            speech = told.toString();
            tongue = t;
            return was;
        }

        int quote(Read read, int i, int what) {
            int[] q = read.quotes.get(i);
            if (what < 3) {
                return q[what];
            }
            int end = q[1] == NONE ? speech.length() : q[1];
            int many = 0;
            for (int at = q[0] + 1; at < end; at++) {
                boolean letter = read.kind[at] == 0;
                many += what == 3 && letter || what == 4 && letter && read.depth[at] == q[2]
                    || what == 5 && read.kind[at] == 2 || what == 6 && read.kind[at] == 3 ? 1 : 0;
            }
            return many;
        }

        int paragraph(Read read, int i, int what) {
            int begin = 0;
            for (int seen = 0; seen < i; seen++) {
                begin = speech.indexOf('|', begin) + 1;
            }
            if (what == 0) {
                return begin == 0 ? 0 : read.depth[begin - 1];
            }
            int many = 0;
            for (int at = begin; at < speech.length() && speech.charAt(at) != '|'; at++) {
                many += read.kind[at] == (what == 1 ? 0 : 5) ? 1 : 0;
            }
            return many;
        }
    }

    // ---- all that can be asked

    private static void compare(String where, Run x, Model m) {
        Read read = m.read();
        int n = m.speech.length();
        where = where + " of [" + m.speech + "] by " + m.tongue + " " + m.rule + ": ";
        int marks = 0;
        int greatest = 0;
        for (int i = 0; i < n; i++) {
            due(where + "sign " + i, x.ask("sign", i), (int) m.speech.charAt(i));
            due(where + "kind " + i, x.ask("kind", i), read.kind[i]);
            due(where + "depth " + i, x.ask("depth", i), read.depth[i]);
            due(where + "partner " + i, x.ask("partner", i), read.partner[i]);
            marks += isMark(m.speech.charAt(i)) ? 1 : 0;
            greatest = Math.max(greatest, read.depth[i]);
        }
        int[] counts = {n, marks, m.tongue, m.rule, m.w[0], m.w[1], m.w[2], m.text.length(),
            m.past.size(), greatest, read.last};
        for (int what = 0; what < counts.length; what++) {
            due(where + "count " + what, x.ask("count", what), counts[what]);
        }
        due(where + "wrong", x.ask("wrong", -1, 0), read.wrongs.size());
        for (int i = 0; i < read.wrongs.size(); i++) {
            due(where + "wrong " + i, x.ask("wrong", i, 0), read.wrongs.get(i)[0]);
            due(where + "wrong by " + i, x.ask("wrong", i, 1), read.wrongs.get(i)[1]);
        }
        due(where + "wrong", x.ask("wrong", read.wrongs.size(), 0), NONE);
        due(where + "quote", x.ask("quote", -1, 0), read.quotes.size());
        for (int i = 0; i < read.quotes.size(); i++) {
            for (int what = 0; what < 7; what++) {
                due(where + "quote " + i + " " + what, x.ask("quote", i, what), m.quote(read, i, what));
            }
        }
        due(where + "quote", x.ask("quote", read.quotes.size(), 0), NONE);
        int paragraphs = 1 + (int) m.speech.chars().filter(c -> c == '|').count();
        due(where + "paragraph", x.ask("paragraph", -1, 0), paragraphs);
        for (int i = 0; i < paragraphs; i++) {
            for (int what = 0; what < 3; what++) {
                due(where + "paragraph " + i + " " + what, x.ask("paragraph", i, what), m.paragraph(read, i, what));
            }
        }
        due(where + "paragraph", x.ask("paragraph", paragraphs, 0), NONE);
        for (int d = 0; d <= 6; d++) {
            int letters = 0;
            for (int i = 0; i < n; i++) {
                letters += read.kind[i] == 0 && read.depth[i] == d ? 1 : 0;
            }
            due(where + "said " + d, x.ask("said", d), letters);
        }
        compareMended(where, x, m);
    }

    private static void compareMended(String where, Run x, Model m) {
        Search found = m.search();
        due(where + "least", x.ask("least"), found.least);
        for (int what = 0; what < 3; what++) {
            due(where + "changes " + what, x.ask("changes", what), found.tally[what]);
        }
        StringBuilder mended = new StringBuilder();
        for (int i = 0; i < x.ask("mended", -1); i++) {
            mended.append((char) x.ask("mended", i));
        }
        due(where + "mended", mended.toString(), found.way.toString());
        due(where + "mended", x.ask("mended", found.way.length()), NONE);
        due(where + "mended has no wrongs", new Read(found.way.toString(), m.tongue, m.rule).wrongs.size(), 0);
    }

    // ---- runs

    private static int number(Random random, int from, int to) {
        int roll = random.nextInt(40);
        if (roll == 0) {
            int[] odd = {Integer.MIN_VALUE, Integer.MAX_VALUE, from - 1, to + 1, from - 2, 65536 + from};
            return odd[random.nextInt(odd.length)];
        }
        return from + random.nextInt(Math.max(1, to - from + 1));
    }

    private static int anySign(Random random, int tongue) {
        switch (random.nextInt(12)) {
            case 0: return '|';
            case 1: return ' ';
            case 2: return 'a' + random.nextInt(26);
            case 3: return 33 + random.nextInt(94);
            case 4: case 5: return MARKS.charAt(random.nextInt(MARKS.length()));
            default: return TONGUES[tongue].charAt(random.nextInt(4));
        }
    }

    /** A speech that is nearly right, so that reading goes deep and renews. */
    private static String nearly(Random random, int tongue, int rule, int length) {
        StringBuilder s = new StringBuilder();
        int d = 0;
        while (s.length() < length) {
            int roll = random.nextInt(20);
            if (roll < 6 && d < 6) {
                s.append(opener(tongue, d++));
            } else if (roll < 11 && d > 0) {
                s.append(closer(tongue, d--));
            } else if (roll < 14) {
                s.append('|').append(dueBehindBreak(tongue, rule, d));
            } else if (roll < 15) {
                s.append(MARKS.charAt(random.nextInt(MARKS.length())));
            } else {
                s.append(roll < 16 ? ' ' : (char) ('a' + random.nextInt(26)));
            }
        }
        s.setLength(length);
        return s.toString();
    }

    private static void tell(Run x, Model m, String where, String text) {
        due(where + " wipe", x.tell("wipe"), m.text.length());
        m.text = "";
        for (int i = 0; i < text.length(); i++) {
            due(where + " write", x.tell("write", text.charAt(i)), m.write(text.charAt(i)));
        }
    }

    private static void randomRun(int seed) {
        Random random = new Random(seed);
        Run x = new Run();
        Model m = new Model();
        int longest = seed % 8 == 0 ? 118 : 24;
        // A step tells some 130 calls at most, and what is told must leave room for what is asked.
        for (int step = 0; step < 60 && x.calls() < 330; step++) {
            String where = "run " + seed + " step " + step;
            act(random, x, m, where, longest);
            if (step % 6 == 5) {
                compare(where, x, m);
            }
        }
        for (int more = 0; more < 7; more++) {
            due("run " + seed + " undo", x.tell("undo"), m.undo());
            due("run " + seed + " undone", x.state(), m.state());
        }
    }

    private static void act(Random random, Run x, Model m, String where, int longest) {
        int n = m.speech.length();
        int a;
        int b;
        switch (random.nextInt(14)) {
            case 0:
                tell(x, m, where, nearly(random, m.tongue, m.rule, random.nextInt(longest + 6)));
                due(where + " fault", x.ask("fault"), m.fault());
                due(where + " lay", x.tell("lay"), m.lay());
                break;
            case 1:
                tell(x, m, where, random.nextInt(5) == 0 ? "nor" : NAMES[random.nextInt(4)]);
                due(where + " speak", x.tell("speak"), m.speak());
                break;
            case 2:
                a = number(random, 0, 2);
                due(where + " rule " + a, x.tell("rule", a), m.rule(a));
                break;
            case 3:
                a = number(random, 0, 2);
                b = number(random, 1, 9);
                due(where + " weigh " + a + " " + b, x.tell("weigh", a, b), m.weigh(a, b));
                break;
            case 4: case 5: case 6:
                a = number(random, 0, n);
                b = anySign(random, m.tongue);
                due(where + " put " + a + " " + b, x.tell("put", a, b), m.put(a, b));
                break;
            case 7:
                a = number(random, 0, n - 1);
                due(where + " take " + a, x.tell("take", a), m.take(a));
                break;
            case 8: case 9:
                a = number(random, 0, n - 1);
                b = anySign(random, m.tongue);
                due(where + " alter " + a + " " + b, x.tell("alter", a, b), m.alter(a, b));
                break;
            case 10:
                due(where + " undo", x.tell("undo"), m.undo());
                break;
            case 11:
                due(where + " mend", x.tell("mend"), m.mend());
                break;
            case 12:
                a = number(random, 0, 3);
                b = number(random, 0, 2);
                due(where + " would " + a + " " + b, x.ask("would", a, b), m.would(a, b));
                break;
            default:
                a = number(random, 0, 3);
                due(where + " retell " + a, x.tell("retell", a), m.retell(a));
                break;
        }
    }

    private static Run made(Model m) {
        Run x = new Run();
        for (int i = 0; i < NAMES[m.tongue].length(); i++) {
            x.tell("write", NAMES[m.tongue].charAt(i));
        }
        x.tell("speak");
        x.tell("rule", m.rule);
        for (int which = 0; which < 3; which++) {
            x.tell("weigh", which, m.w[which]);
        }
        x.tell("wipe");
        for (int i = 0; i < m.speech.length(); i++) {
            x.tell("write", m.speech.charAt(i));
        }
        x.tell("lay");
        m.text = m.speech;
        return x;
    }

    private static Model anyModel(Random random, int heaviest) {
        Model m = new Model();
        m.tongue = random.nextInt(4);
        m.rule = random.nextInt(3);
        for (int which = 0; which < 3; which++) {
            m.w[which] = 1 + random.nextInt(heaviest);
        }
        return m;
    }

    private static void longSpeech(int seed) {
        Random random = new Random(seed + 5000);
        Model m = anyModel(random, seed % 2 == 0 ? 9 : 2);
        StringBuilder s = new StringBuilder(nearly(random, m.tongue, m.rule, 110 + random.nextInt(11)));
        for (int i = 0; i < 6; i++) {
            s.setCharAt(random.nextInt(s.length()), MARKS.charAt(random.nextInt(MARKS.length())));
        }
        m.speech = s.toString();
        compare("long " + seed, made(m), m);
    }

    // ---- LEAST from READ alone

    private static void smallSpeech(int seed) {
        Random random = new Random(seed + 1000);
        Model m = anyModel(random, 3);
        String alphabet = "a|" + TONGUES[m.tongue] + TONGUES[m.tongue] + "|" + MARKS.charAt(random.nextInt(10));
        int length = random.nextInt(6);
        for (int i = 0; i < length; i++) {
            m.speech += alphabet.charAt(random.nextInt(alphabet.length()));
        }
        Run x = made(m);
        int least = x.ask("least");
        compareMended("small " + seed + " [" + m.speech + "] ", x, m);
        if (least <= 4) {
            String where = "small " + seed + " [" + m.speech + "] least ";
            due(where + "can be had", mendable(m, 0, "", least), true);
            due(where + "is the least", least > 0 && mendable(m, 0, "", least - 1), false);
        }
    }

    private static boolean mendable(Model m, int i, String way, int budget) {
        if (budget < 0) {
            return false;
        }
        if (i == m.speech.length()) {
            if (new Read(way, m.tongue, m.rule).wrongs.isEmpty()) {
                return true;
            }
        } else {
            char c = m.speech.charAt(i);
            if (mendable(m, i + 1, way + c, budget)) {
                return true;
            }
            if (isMark(c) && mendable(m, i + 1, way, budget - m.w[1])) {
                return true;
            }
            for (int k = 0; isMark(c) && k < 4; k++) {
                if (mendable(m, i + 1, way + TONGUES[m.tongue].charAt(k), budget - m.w[2])) {
                    return true;
                }
            }
        }
        for (int k = 0; k < 4; k++) {
            if (mendable(m, i, way + TONGUES[m.tongue].charAt(k), budget - m.w[0])) {
                return true;
            }
        }
        return false;
    }
}
