import java.util.ArrayList;
import java.util.List;

/**
 * A run of calls on one object. An object is promised 512 calls and no more; so when they are used
 * up, all that was told is told again to a new object, and asking goes on there.
 */
final class Run {
    static final int PROMISED = 512;

    private static final class Call {
        final String name;
        final int[] numbers;
        final int answer;

        Call(String name, int[] numbers, int answer) {
            this.name = name;
            this.numbers = numbers;
            this.answer = answer;
        }
    }

    private final List<Call> told = new ArrayList<>();
    private SpeechMarks object = new SpeechMarks();
    private int used = 0;

    static Run laid(String text) {
        Run run = new Run();
        run.write(text);
        run.tell("lay");
        return run;
    }

    /** Laid as the last of it, so that nothing can be undone. */
    static Run laid(String tongue, int rule, String text) {
        Run run = new Run();
        run.write(tongue);
        run.tell("speak");
        run.tell("rule", rule);
        run.write(text);
        run.tell("lay");
        return run;
    }

    /** A call that belongs to the run. */
    int tell(String name, int... numbers) {
        makeRoom();
        int answer = call(object, name, numbers);
        used++;
        told.add(new Call(name, numbers.clone(), answer));
        return answer;
    }

    /** A call that only asks, and is forgotten behind its answer. */
    int ask(String name, int... numbers) {
        makeRoom();
        used++;
        return call(object, name, numbers);
    }

    Run copy() {
        Run other = new Run();
        for (Call call : told) {
            other.tell(call.name, call.numbers);
        }
        return other;
    }

    int calls() {
        return told.size();
    }

    private void makeRoom() {
        if (used < PROMISED) {
            return;
        }
        if (told.size() >= PROMISED) {
            throw new IllegalStateException("the run is longer than what is promised");
        }
        object = new SpeechMarks();
        used = 0;
        for (Call call : told) {
            used++;
            int answer = call(object, call.name, call.numbers);
            if (answer != call.answer) {
                throw new IllegalStateException(call.name + " answered " + answer
                    + " where the same run answered " + call.answer);
            }
        }
    }

    /** The text anew. */
    void write(String text) {
        tell("wipe");
        more(text);
    }

    void more(String text) {
        for (int i = 0; i < text.length(); i++) {
            tell("write", text.charAt(i));
        }
    }

    String speech() {
        return row("sign", ask("count", 0));
    }

    String mended() {
        return row("mended", ask("mended", -1));
    }

    private String row(String name, int many) {
        StringBuilder all = new StringBuilder();
        for (int i = 0; i < many; i++) {
            all.append((char) ask(name, i));
        }
        return all.toString();
    }

    String kinds() {
        return digits("kind");
    }

    String depths() {
        return digits("depth");
    }

    private String digits(String name) {
        StringBuilder all = new StringBuilder();
        int many = ask("count", 0);
        for (int i = 0; i < many; i++) {
            all.append(ask(name, i));
        }
        return all.toString();
    }

    /** Each as place:by, with blanks between them. */
    String wrongs() {
        StringBuilder all = new StringBuilder();
        int many = ask("wrong", -1, 0);
        for (int i = 0; i < many; i++) {
            all.append(i == 0 ? "" : " ").append(ask("wrong", i, 0)).append(':').append(ask("wrong", i, 1));
        }
        return all.toString();
    }

    /** All that can be undone: speech, tongue, rule and weights. */
    String state() {
        StringBuilder all = new StringBuilder("[").append(speech()).append(']');
        for (int what = 2; what <= 6; what++) {
            all.append(' ').append(ask("count", what));
        }
        return all.toString();
    }

    static String words(String name, int... numbers) {
        StringBuilder all = new StringBuilder(name).append('(');
        for (int i = 0; i < numbers.length; i++) {
            all.append(i == 0 ? "" : ", ").append(numbers[i]);
        }
        return all.append(')').toString();
    }

    /** All that can be asked, what would be laid, spoken and wiped, and all that can be undone. */
    List<String> everything() {
        List<String> all = new ArrayList<>();
        askInto(all, "fault");
        for (int what = 0; what <= 10; what++) {
            askInto(all, "count", what);
        }
        int signs = ask("count", 0);
        for (int i = 0; i < signs; i++) {
            askInto(all, "sign", i);
            askInto(all, "kind", i);
            askInto(all, "depth", i);
            askInto(all, "partner", i);
        }
        tableInto(all, "wrong", 2);
        tableInto(all, "quote", 7);
        tableInto(all, "paragraph", 3);
        for (int d = 0; d <= 6; d++) {
            askInto(all, "said", d);
        }
        askInto(all, "least");
        for (int what = 0; what < 3; what++) {
            askInto(all, "changes", what);
        }
        all.add("mended [" + mended() + "]");
        for (int tongue = 0; tongue < 4; tongue++) {
            for (int rule = 0; rule < 3; rule++) {
                askInto(all, "would", tongue, rule);
            }
        }
        textInto(all);
        pastInto(all);
        return all;
    }

    private void askInto(List<String> all, String name, int... numbers) {
        all.add(words(name, numbers) + " " + ask(name, numbers));
    }

    private void tableInto(List<String> all, String name, int width) {
        int many = ask(name, -1, 0);
        all.add(name + " " + many);
        for (int i = 0; i <= many; i++) {
            for (int what = 0; what < width; what++) {
                askInto(all, name, i, what);
            }
        }
    }

    private void textInto(List<String> all) {
        Run laid = copy();
        all.add("lay " + laid.tell("lay") + " " + laid.state());
        Run spoken = copy();
        all.add("speak " + spoken.tell("speak") + " " + spoken.ask("count", 2));
        all.add("wipe " + copy().tell("wipe"));
        all.add("write " + copy().tell("write", 'a'));
    }

    private void pastInto(List<String> all) {
        Run past = copy();
        for (int i = 0; i < 7; i++) {
            all.add("undo " + past.tell("undo") + " " + past.state());
        }
    }

    private static int call(SpeechMarks x, String name, int... n) {
        switch (name) {
            case "write": return x.write(n[0]);
            case "wipe": return x.wipe();
            case "fault": return x.fault();
            case "lay": return x.lay();
            case "speak": return x.speak();
            case "rule": return x.rule(n[0]);
            case "weigh": return x.weigh(n[0], n[1]);
            case "put": return x.put(n[0], n[1]);
            case "take": return x.take(n[0]);
            case "alter": return x.alter(n[0], n[1]);
            case "undo": return x.undo();
            case "sign": return x.sign(n[0]);
            case "kind": return x.kind(n[0]);
            case "depth": return x.depth(n[0]);
            case "partner": return x.partner(n[0]);
            case "wrong": return x.wrong(n[0], n[1]);
            case "quote": return x.quote(n[0], n[1]);
            case "said": return x.said(n[0]);
            case "paragraph": return x.paragraph(n[0], n[1]);
            case "least": return x.least();
            case "changes": return x.changes(n[0]);
            case "mended": return x.mended(n[0]);
            case "mend": return x.mend();
            case "would": return x.would(n[0], n[1]);
            case "retell": return x.retell(n[0]);
            case "count": return x.count(n[0]);
            default: throw new IllegalArgumentException(name);
        }
    }
}
