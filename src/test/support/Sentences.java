import java.io.IOException;
import java.nio.file.Files;
import java.nio.file.Path;
import java.util.BitSet;
import java.util.Map;
import java.util.TreeMap;
import java.util.regex.Matcher;
import java.util.regex.Pattern;

/**
 * What the tests of the document's sentences share. A test quotes the words of the document that it
 * is for, and then makes calls, written as {@code "take(0)=1 count(1)=NONE"}: calls with the answers
 * that are due, blanks between them; {@code "60*take(0)=0"} is the same call sixty times. At its end
 * a test class tells which words of its sections no test has quoted, so no sentence is left out.
 */
abstract class Sentences {
    static final int LOW = Integer.MIN_VALUE, HIGH = Integer.MAX_VALUE;
    static final int MOST_CALLS = 512;
    private static final Path DOCUMENT = Path.of("../shared/DOC.md");
    private static final Pattern CALL = Pattern.compile("(?:(\\d+)\\*)?(\\w+)\\(([^)]*)\\)(?:=(\\S+))?");

    private final Map<String, String> sections = new TreeMap<>();
    private final Map<String, BitSet> quoted = new TreeMap<>();
    private String section = "", words = "";
    private int checks = 0, wrong = 0, sentences = 0, checksAhead = 0;

    /** An object with how many calls were made on it: what is behind the 512th call is free. */
    static final class Tried {
        final BranchingTalks x = new BranchingTalks();
        int calls = 0;
    }

    Sentences() {
        if (Files.exists(DOCUMENT)) {
            readDocument();
        } else {
            System.out.println("there is no " + DOCUMENT + ": whether it has the words is not looked at");
        }
    }

    private void readDocument() {
        String all;
        try {
            all = Files.readString(DOCUMENT);
        } catch (IOException e) {
            throw new IllegalStateException(e);
        }
        keep("What it is", between(all, "## What it is", "## The public face"));
        String terms = between(all, "## Terms", "Ahead of the calls");
        String[] parts = terms.split("======== \\d ");
        keep("Terms", parts[0]);
        for (int i = 1; i < parts.length; i++) keep("Terms " + i, parts[i]);
        Matcher m = Pattern.compile("## Promise (\\d+): \\w.*\\s+`[^`]*`:([^#]*)").matcher(all);
        while (m.find()) keep("Promise " + m.group(1), m.group(2));
    }

    private static String between(String all, String first, String behind) {
        int from = all.indexOf(first);
        int to = all.indexOf(behind, Math.max(from, 0));
        return from < 0 || to < 0 ? "" : all.substring(from + first.length(), to);
    }

    private void keep(String name, String text) {
        sections.put(name, plain(text.replace("```text", "").replace("```", "")));
        quoted.put(name, new BitSet());
    }

    private static String plain(String text) {
        return text.replaceAll("\\s+", " ").trim();
    }

    // ---- the words that are tested

    /** The checks that follow are for these words of the document; there must be some. */
    void says(String ofSection, String theWords) {
        closeSentence();
        quote(ofSection, theWords);
        checksAhead = checks;
        sentences++;
    }

    /** Words that no call can show. */
    void leaves(String ofSection, String theWords) {
        closeSentence();
        quote(ofSection, theWords);
        checksAhead = -1;
    }

    private void closeSentence() {
        if (!words.isEmpty() && checks == checksAhead) complain("nothing was looked at");
    }

    private void quote(String ofSection, String theWords) {
        section = ofSection;
        words = theWords;
        if (sections.isEmpty()) return;
        int at = sections.getOrDefault(ofSection, "").indexOf(theWords);
        if (at < 0) complain("the document has no such words");
        else quoted.get(ofSection).set(at, at + theWords.length());
    }

    private void complain(String what) {
        wrong++;
        System.out.println(section + ", \"" + words + "\": " + what);
    }

    /** All words of these sections must have been quoted. */
    void covers(String... names) {
        for (String name : names) {
            String text = sections.getOrDefault(name, "");
            StringBuilder left = new StringBuilder();
            for (int i = 0; i < text.length(); i++) {
                if (!quoted.get(name).get(i)) left.append(text.charAt(i));
            }
            if (!left.toString().isBlank()) {
                wrong++;
                System.out.println(name + ": no test is for \"" + left + "\"");
            }
        }
    }

    void end() {
        closeSentence();
        System.out.println(sentences + " sentences, " + checks + " answers looked at, " + wrong + " not as due");
        if (wrong != 0) System.exit(1);
    }

    // ---- calls

    void due(String call, long got, long want) {
        checks++;
        if (got != want) complain(call + " answered " + got + ", due is " + want);
    }

    private static int number(String s) {
        return s.equals("LOW") ? LOW : s.equals("HIGH") ? HIGH : Integer.parseInt(s);
    }

    private static long answer(String s) {
        switch (s) {
            case "NONE": return -1;
            case "UNKNOWN": return -1000001;
            case "OUTSIDE": return -1000002;
            case "NOT": return -1000003;
            case "FULL": return -1000004;
            default: return Long.parseLong(s);
        }
    }

    long call(Tried t, String name, int a, int b) {
        BranchingTalks x = t.x;
        t.calls++;
        if (t.calls > MOST_CALLS) throw new IllegalStateException("call " + t.calls + " in " + words);
        switch (name) {
            case "write": return x.write(a);
            case "talk": return x.talk();
            case "fault": return x.fault();
            case "begin": return x.begin(a);
            case "take": return x.take(a);
            case "back": return x.back(a);
            case "cut": return x.cut(a, b);
            case "cost": return x.cost(a, b);
            case "undo": return x.undo();
            case "answer": return x.answer(a, b);
            case "count": return x.count(a);
            case "step": return x.step(a);
            case "line": return x.line(a, b);
            case "least": return x.least(a, b);
            case "row": return x.row(a, b);
            case "needs": return x.needs(a);
            case "must": return x.must(a, b);
            case "loop": return x.loop(a);
            case "use": return x.use(a);
            case "mark": return x.mark(a, b);
            case "whole": return x.whole(a);
            case "rows": return x.rows(a, b);
            default: throw new IllegalArgumentException(name);
        }
    }

    /** Makes the calls; each that has an answer written behind it must give that. */
    void expect(Tried t, String calls) {
        for (String one : calls.trim().split("\\s+")) {
            if (one.isEmpty()) continue;
            Matcher m = CALL.matcher(one);
            if (!m.matches()) throw new IllegalArgumentException(one);
            String[] numbers = m.group(3).isEmpty() ? new String[0] : m.group(3).split(",");
            int a = numbers.length > 0 ? number(numbers[0]) : 0;
            int b = numbers.length > 1 ? number(numbers[1]) : 0;
            int times = m.group(1) == null ? 1 : Integer.parseInt(m.group(1));
            for (int i = 0; i < times; i++) {
                long got = call(t, m.group(2), a, b);
                if (m.group(4) != null) due(one, got, answer(m.group(4)));
            }
        }
    }

    void put(Tried t, String text) {
        for (int i = 0; i < text.length(); i++) call(t, "write", text.charAt(i), 0);
    }

    /** A new object that was told a text without faults, and on which then some calls were made. */
    Tried told(String text, String calls) {
        Tried t = new Tried();
        put(t, text);
        long answers = call(t, "talk", 0, 0);
        if (answers < 0) complain("a fault in " + text + ": " + answers);
        expect(t, calls);
        return t;
    }

    void tells(String text, String calls) {
        told(text, calls);
    }

    /** How a text is read by a new object. */
    void reads(String text, int answer, int fault) {
        Tried t = new Tried();
        put(t, text);
        due("talk() of \"" + text + "\"", call(t, "talk", 0, 0), answer);
        due("fault() of \"" + text + "\"", call(t, "fault", 0, 0), fault);
    }

    static String times(String part, int n) {
        return part.repeat(n);
    }

    // ---- what is changed, and what not

    private void look(StringBuilder s, Tried t, String name, int a, int b) {
        s.append(' ').append(name.charAt(0)).append(call(t, name, a, b));
    }

    private void lookAtAnswers(StringBuilder s, Tried t) {
        int answers = (int) call(t, "count", 8, 0);
        for (int a = 0; a < answers; a++) {
            for (int what = 0; what < 16; what++) look(s, t, "answer", a, what);
            look(s, t, "use", a, 0);
        }
    }

    private void lookAtLines(StringBuilder s, Tried t) {
        int lines = (int) call(t, "count", 6, 0);
        for (int line = 0; line < 16 && lines > 0; line++) {
            if ((lines >> line & 1) == 0) continue;
            for (int what = 0; what < 6; what++) look(s, t, "line", line, what);
            for (int i = 0; i < 2; i++) {
                look(s, t, "least", line, i);
                look(s, t, "row", line, i);
                look(s, t, "must", line, i);
            }
            look(s, t, "needs", line, 0);
            look(s, t, "loop", line, 0);
            look(s, t, "rows", line, 5);
        }
    }

    /** All that can be seen of an object, but for its text; it is used up by that. */
    String traces(Tried t) {
        StringBuilder s = new StringBuilder();
        for (int what = 0; what < 10; what++) look(s, t, "count", what, 0);
        for (int i = 0; i <= call(t, "count", 2, 0) && i <= 60; i++) look(s, t, "step", i, 0);
        lookAtAnswers(s, t);
        lookAtLines(s, t);
        for (int mark = 0; mark < 6; mark++) look(s, t, "mark", mark, 3);
        for (int what = 0; what < 8; what++) look(s, t, "whole", what, 0);
        int answers = (int) call(t, "count", 8, 0);
        for (int left = (int) call(t, "count", 9, 0); left >= 0; left--) {
            look(s, t, "undo", 0, 0);
            for (int a = 0; a < answers && a < 3; a++) {
                look(s, t, "answer", a, 2);
                look(s, t, "answer", a, 6);
            }
        }
        for (int i = 0; i < 3; i++) {
            look(s, t, "back", 1, 0);
            look(s, t, "count", 1, 0);
        }
        return s.toString();
    }

    private String tracesWithText(Tried t) {
        StringBuilder s = new StringBuilder();
        look(s, t, "fault", 0, 0);
        look(s, t, "count", 10, 0);
        s.append(traces(t));
        look(s, t, "talk", 0, 0);
        look(s, t, "fault", 0, 0);
        look(s, t, "count", 6, 0);
        return s.toString();
    }

    void same(String what, String got, String want) {
        checks++;
        if (!got.equals(want)) complain(what + " left\n  " + got + "\nwhere there was\n  " + want);
    }

    /**
     * Each of the refusals, on a new object that was told the text (none, if it is empty) and had
     * the calls made on it: it must answer so, and leave nothing other than it was.
     */
    void refuses(String text, String calls, String refusals) {
        String without = tracesWithText(prepared(text, calls));
        for (String refusal : refusals.trim().split("\\s+")) {
            Tried t = prepared(text, calls);
            expect(t, refusal);
            same(refusal, tracesWithText(t), without);
        }
    }

    private Tried prepared(String text, String calls) {
        if (!text.isEmpty()) return told(text, calls);
        Tried t = new Tried();
        expect(t, calls);
        return t;
    }
}
