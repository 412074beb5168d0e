import java.math.BigInteger;
import java.util.ArrayList;
import java.util.Arrays;
import java.util.Collections;
import java.util.HashMap;
import java.util.HashSet;
import java.util.List;
import java.util.Map;
import java.util.Random;
import java.util.Set;
import java.util.TreeMap;
import java.util.TreeSet;
import java.util.function.Predicate;

/**
 * Long runs of calls, made by a fixed seed, on the program and on a second, slow reading of the
 * document: each answer must be the same. The model shares no way of working with the program: it
 * parses by descent, keeps whole rows, counts with BigInteger and explores anew for each question.
 */
public final class ModelTests {
    static final int NONE = -1, UNKNOWN = -1000001, OUTSIDE = -1000002, NOT = -1000003, FULL = -1000004;
    static final int CALLS = 512;

    record Alternative(Set<Integer> wants, Set<Integer> bars) { }

    record State(int line, Set<Integer> marks) { }

    static final class Answer {
        int from, to, cost;
        boolean cut;
        final List<Alternative> guard = new ArrayList<>();
        final Set<Integer> lays = new TreeSet<>(), takes = new TreeSet<>();

        State behind(State s) {
            Set<Integer> marks = new TreeSet<>(s.marks);
            marks.addAll(lays);
            marks.removeAll(takes);
            return new State(to, marks);
        }

        boolean names(int mark) {
            return guard.stream().anyMatch(a -> a.wants.contains(mark) || a.bars.contains(mark));
        }
    }

    static final class Fault extends Exception {
        private static final long serialVersionUID = 1L;
        final int kind, place;

        Fault(int kind, int place) {
            this.kind = kind;
            this.place = place;
        }
    }

    static final class Talk {
        final List<Answer> answers = new ArrayList<>();
        final List<Integer> named = new ArrayList<>();
        final Set<Integer> endings = new TreeSet<>();
    }

    /** Reads by descent; the end is token 0 at the place behind all bytes. */
    static final class Parser {
        final List<Integer> tokens = new ArrayList<>(), places = new ArrayList<>();
        final Talk talk = new Talk();
        int at = 0;

        Parser(List<Integer> text) {
            for (int i = 0; i < text.size(); i++) {
                if (text.get(i) != 32) {
                    tokens.add(text.get(i));
                    places.add(i);
                }
            }
            tokens.add(-7);
            places.add(text.size());
        }

        boolean sees(String letters) {
            return tokens.get(at) >= 0 && letters.indexOf(tokens.get(at)) >= 0;
        }

        int eat(String letters) throws Fault {
            if (!sees(letters)) {
                throw new Fault(1, places.get(at));
            }
            return tokens.get(at++);
        }

        Talk parse() throws Fault {
            do {
                clause();
            } while (tokens.get(at) != -7);
            return talk;
        }

        int lineName() throws Fault {
            int line = eat("abcdefghijklmnop") - 'a';
            talk.named.add(line);
            return line;
        }

        void clause() throws Fault {
            int line = lineName();
            if (sees(".")) {
                eat(".");
                eat(";");
                talk.endings.add(line);
                return;
            }
            eat(">");
            if (talk.answers.size() == 32) {
                throw new Fault(3, places.get(at - 1));
            }
            Answer a = new Answer();
            talk.answers.add(a);
            a.from = line;
            a.to = lineName();
            if (sees("0123456789")) {
                a.cost = eat("0123456789") - '0';
            }
            if (sees("?")) {
                eat("?");
                a.guard.add(alternative());
                while (sees("|")) {
                    if (a.guard.size() == 3) {
                        throw new Fault(2, places.get(at));
                    }
                    eat("|");
                    a.guard.add(alternative());
                }
            }
            if (sees("!")) {
                eat("!");
                effect(a);
            }
            eat(";");
        }

        Alternative alternative() throws Fault {
            Alternative alt = new Alternative(new TreeSet<>(), new TreeSet<>());
            do {
                int mark = eat("qrstuvQRSTUV");
                if (mark >= 'q') {
                    alt.wants.add(mark - 'q');
                } else {
                    alt.bars.add(mark - 'Q');
                }
            } while (sees("qrstuvQRSTUV"));
            return alt;
        }

        void effect(Answer a) throws Fault {
            do {
                int place = places.get(at);
                int letter = eat("qrstuvQRSTUV");
                int mark = letter >= 'q' ? letter - 'q' : letter - 'Q';
                if (a.lays.contains(mark) || a.takes.contains(mark)) {
                    throw new Fault(4, place);
                }
                (letter >= 'q' ? a.lays : a.takes).add(mark);
            } while (sees("qrstuvQRSTUV"));
        }
    }

    static final class Model {
        List<Integer> text = new ArrayList<>();
        Talk talk = null;
        int latestFault = 0;
        State beginning;
        final List<Integer> steps = new ArrayList<>();
        final List<State> trail = new ArrayList<>();
        final List<Runnable> acts = new ArrayList<>();
        Map<State, List<Integer>> known = null;

        int write(int letter) {
            if (letter < 0 || letter > 255) return OUTSIDE;
            if (text.size() == 200) return FULL;
            text.add(letter);
            return text.size();
        }

        int talk() {
            Parser parser = new Parser(text);
            text = new ArrayList<>();
            try {
                talk = parser.parse();
            } catch (Fault f) {
                latestFault = f.kind;
                return -100 - f.place;
            }
            latestFault = 0;
            acts.clear();
            begin(0);
            return talk.answers.size();
        }

        static Set<Integer> members(int set) {
            Set<Integer> all = new TreeSet<>();
            for (int i = 0; i < 32; i++) if ((set >>> i & 1) == 1) all.add(i);
            return all;
        }

        static int bits(Iterable<Integer> members) {
            int set = 0;
            for (int m : members) set |= 1 << m;
            return set;
        }

        int begin(int marks) {
            if (talk == null) return UNKNOWN;
            if (marks < 0 || marks > 63) return OUTSIDE;
            beginning = new State(talk.named.get(0), members(marks));
            steps.clear();
            trail.clear();
            trail.add(beginning);
            known = null;
            return talk.named.get(0);
        }

        boolean noAnswer(int a) {
            return talk == null || a < 0 || a >= talk.answers.size();
        }

        boolean noLine(int line) {
            return talk == null || !talk.named.contains(line);
        }

        State here() {
            return trail.get(trail.size() - 1);
        }

        boolean holds(Answer a, Set<Integer> marks, int without) {
            if (a.guard.isEmpty()) return true;
            for (Alternative alt : a.guard) {
                Set<Integer> wants = new TreeSet<>(alt.wants), bars = new TreeSet<>(alt.bars);
                wants.remove(without);
                bars.remove(without);
                if (marks.containsAll(wants) && Collections.disjoint(marks, bars)) return true;
            }
            return false;
        }

        boolean open(int number, State s) {
            return open(number, s, -1);
        }

        boolean open(int number, State s, int without) {
            Answer a = talk.answers.get(number);
            return a.from == s.line && !a.cut && !talk.endings.contains(s.line) && holds(a, s.marks, without);
        }

        List<Integer> openIn(State s) {
            List<Integer> all = new ArrayList<>();
            for (int a = 0; a < talk.answers.size(); a++) if (open(a, s)) all.add(a);
            return all;
        }

        int take(int a) {
            if (noAnswer(a)) return UNKNOWN;
            if (!open(a, here())) return NOT;
            if (steps.size() == 60) return FULL;
            trail.add(talk.answers.get(a).behind(here()));
            steps.add(a);
            return here().line;
        }

        int back(int n) {
            if (talk == null) return UNKNOWN;
            if (n < 1 || n > 60) return OUTSIDE;
            if (n > steps.size()) return NOT;
            for (int i = 0; i < n; i++) {
                steps.remove(steps.size() - 1);
                trail.remove(trail.size() - 1);
            }
            return here().line;
        }

        void act(Runnable undoing) {
            acts.add(undoing);
            if (acts.size() > 12) acts.remove(0);
            known = null;
        }

        int cut(int number, int on) {
            if (noAnswer(number)) return UNKNOWN;
            if (on != 0 && on != 1) return OUTSIDE;
            Answer a = talk.answers.get(number);
            if (a.cut == (on == 1)) return NOT;
            boolean before = a.cut;
            act(() -> a.cut = before);
            a.cut = on == 1;
            return (int) talk.answers.stream().filter(x -> !x.cut).count();
        }

        int cost(int number, int v) {
            if (noAnswer(number)) return UNKNOWN;
            if (v < 0 || v > 9) return OUTSIDE;
            Answer a = talk.answers.get(number);
            int before = a.cost;
            act(() -> a.cost = before);
            a.cost = v;
            return before;
        }

        int undo() {
            if (talk == null) return UNKNOWN;
            if (acts.isEmpty()) return NOT;
            acts.remove(acts.size() - 1).run();
            known = null;
            return acts.size();
        }

        int answer(int number, int what) {
            if (noAnswer(number)) return UNKNOWN;
            Answer a = talk.answers.get(number);
            if (what == 0) return a.from;
            if (what == 1) return a.to;
            if (what == 2) return a.cost;
            if (what == 3) return a.guard.size();
            if (what == 4) return bits(a.lays);
            if (what == 5) return bits(a.takes);
            if (what == 6) return a.cut ? 1 : 0;
            if (what == 7) return open(number, here()) ? 1 : 0;
            if (what == 8) {
                boolean all = a.guard.stream().noneMatch(alt -> Collections.disjoint(alt.wants, alt.bars));
                return all && !a.guard.isEmpty() ? 1 : 0;
            }
            for (int k = 0; k < a.guard.size(); k++) {
                if (what == 10 + 2 * k) return bits(a.guard.get(k).wants);
                if (what == 11 + 2 * k) return bits(a.guard.get(k).bars);
            }
            return OUTSIDE;
        }

        int count(int what) {
            if (what == 10) return text.size();
            if (talk == null) return UNKNOWN;
            if (what == 0) return here().line;
            if (what == 1) return bits(here().marks);
            if (what == 2) return steps.size();
            if (what == 3) return openIn(here()).size();
            if (what == 4) return steps.stream().mapToInt(a -> talk.answers.get(a).cost).sum();
            if (what == 5) return talk.named.get(0);
            if (what == 6) return bits(talk.named);
            if (what == 7) return bits(talk.endings);
            if (what == 8) return talk.answers.size();
            if (what == 9) return acts.size();
            return OUTSIDE;
        }

        int step(int i) {
            if (talk == null) return UNKNOWN;
            if (i < 0) return OUTSIDE;
            return i < steps.size() ? steps.get(i) : NONE;
        }

        /** Of each state that is come to from a state its first shortest row, by answers not forbidden. */
        Map<State, List<Integer>> comeTo(State origin, Predicate<Integer> allowed, int without) {
            Map<State, List<Integer>> found = new HashMap<>();
            Map<State, List<Integer>> level = new HashMap<>();
            level.put(origin, List.of());
            while (!level.isEmpty()) {
                found.putAll(level);
                Map<State, List<Integer>> next = new HashMap<>();
                for (Map.Entry<State, List<Integer>> e : level.entrySet()) {
                    for (int a = 0; a < talk.answers.size(); a++) {
                        if (!allowed.test(a) || !open(a, e.getKey(), without)) continue;
                        State s = talk.answers.get(a).behind(e.getKey());
                        if (found.containsKey(s)) continue;
                        List<Integer> row = new ArrayList<>(e.getValue());
                        row.add(a);
                        next.merge(s, row, (x, y) -> Arrays.compare(ints(x), ints(y)) <= 0 ? x : y);
                    }
                }
                level = next;
            }
            return found;
        }

        static int[] ints(List<Integer> list) {
            return list.stream().mapToInt(i -> i).toArray();
        }

        Map<State, List<Integer>> reached() {
            if (known == null) known = comeTo(beginning, a -> true, -1);
            return known;
        }

        List<State> reachedOf(int line) {
            return reached().keySet().stream().filter(s -> s.line == line).toList();
        }

        boolean stuck(State s) {
            return openIn(s).isEmpty() && !talk.endings.contains(s.line);
        }

        boolean lost(State s) {
            return comeTo(s, a -> true, -1).keySet().stream().noneMatch(t -> talk.endings.contains(t.line));
        }

        int line(int line, int what) {
            if (noLine(line)) return UNKNOWN;
            if (what < 0 || what > 5) return OUTSIDE;
            List<State> states = reachedOf(line);
            if (what == 0) return states.size();
            if (what == 3) return (int) states.stream().filter(this::stuck).count();
            if (what == 4) return (int) states.stream().filter(this::lost).count();
            if (what == 5) return talk.endings.contains(line) ? 1 : 0;
            if (states.isEmpty()) return 0;
            Set<Integer> marks = new TreeSet<>(states.get(0).marks);
            for (State s : states) {
                if (what == 1) marks.retainAll(s.marks);
                else marks.addAll(s.marks);
            }
            return bits(marks);
        }

        List<Integer> rowTo(int line) {
            List<Integer> best = null;
            for (State s : reachedOf(line)) {
                List<Integer> row = reached().get(s);
                if (best == null || row.size() < best.size()
                        || row.size() == best.size() && Arrays.compare(ints(row), ints(best)) < 0) {
                    best = row;
                }
            }
            return best;
        }

        int least(int line, int what) {
            if (noLine(line)) return UNKNOWN;
            if (what != 0 && what != 1) return OUTSIDE;
            if (rowTo(line) == null) return NONE;
            if (what == 0) return rowTo(line).size();
            // states in the order of their costs: the cheapest that is not settled yet is settled next
            TreeMap<Integer, Set<State>> waiting = new TreeMap<>();
            Set<State> settled = new HashSet<>();
            waiting.computeIfAbsent(0, k -> new HashSet<>()).add(beginning);
            while (true) {
                int cost = waiting.firstKey();
                Set<State> some = waiting.get(cost);
                State s = some.iterator().next();
                some.remove(s);
                if (some.isEmpty()) waiting.remove(cost);
                if (!settled.add(s)) continue;
                if (s.line == line) return cost;
                for (int a : openIn(s)) {
                    waiting.computeIfAbsent(cost + talk.answers.get(a).cost, k -> new HashSet<>())
                            .add(talk.answers.get(a).behind(s));
                }
            }
        }

        int row(int line, int i) {
            if (noLine(line)) return UNKNOWN;
            if (i < 0) return OUTSIDE;
            List<Integer> row = rowTo(line);
            return row == null || i >= row.size() ? NONE : row.get(i);
        }

        boolean reachedBy(int line, Predicate<Integer> allowed) {
            return comeTo(beginning, allowed, -1).keySet().stream().anyMatch(s -> s.line == line);
        }

        int needs(int line) {
            if (noLine(line)) return UNKNOWN;
            if (reachedOf(line).isEmpty()) return NONE;
            int set = 0;
            for (int m = 0; m < 6; m++) {
                final int mark = m;
                if (!beginning.marks.contains(m)
                        && !reachedBy(line, a -> !talk.answers.get(a).lays.contains(mark))) {
                    set |= 1 << m;
                }
            }
            return set;
        }

        int must(int line, int i) {
            if (noLine(line)) return UNKNOWN;
            if (i < 0) return OUTSIDE;
            if (reachedOf(line).isEmpty()) return NONE;
            List<Integer> all = new ArrayList<>();
            for (int a = 0; a < talk.answers.size(); a++) {
                final int without = a;
                if (!reachedBy(line, x -> x != without)) all.add(a);
            }
            return i < all.size() ? all.get(i) : NONE;
        }

        int loopFrom(State s) {
            int best = NONE;
            for (int a : openIn(s)) {
                List<Integer> rest = comeTo(talk.answers.get(a).behind(s), x -> true, -1).get(s);
                if (rest != null && (best == NONE || rest.size() + 1 < best)) best = rest.size() + 1;
            }
            return best;
        }

        int loop(int line) {
            if (noLine(line)) return UNKNOWN;
            return reachedOf(line).stream().mapToInt(this::loopFrom).filter(n -> n != NONE).min().orElse(NONE);
        }

        int use(int number) {
            if (noAnswer(number)) return UNKNOWN;
            List<State> states = reachedOf(talk.answers.get(number).from);
            long open = states.stream().filter(s -> open(number, s)).count();
            return open == 0 ? 0 : open == states.size() ? 2 : 1;
        }

        int mark(int mark, int what) {
            if (talk == null || mark < 0 || mark > 5) return UNKNOWN;
            if (what < 0 || what > 3) return OUTSIDE;
            long asking = talk.answers.stream().filter(a -> a.names(mark)).count();
            if (what == 0) return (int) asking;
            if (what == 1) {
                return (int) talk.answers.stream().filter(a -> a.lays.contains(mark) || a.takes.contains(mark)).count();
            }
            if (what == 2) return reached().keySet().stream().anyMatch(s -> s.marks.contains(mark)) ? 1 : 0;
            return asking > 0 && comeTo(beginning, a -> true, mark).keySet().equals(reached().keySet()) ? 1 : 0;
        }

        int linesOf(Predicate<State> which) {
            return bits(reached().keySet().stream().filter(which).map(s -> s.line).toList());
        }

        int whole(int what) {
            if (talk == null) return UNKNOWN;
            Set<State> all = reached().keySet();
            if (what == 0) return all.size();
            if (what == 1) return bits(talk.named) & ~linesOf(s -> true);
            if (what == 2) return linesOf(this::stuck);
            if (what == 3) return linesOf(this::lost);
            if (what == 4) return linesOf(s -> loopFrom(s) != NONE);
            if (what == 5) return all.stream().mapToInt(s -> openIn(s).size()).max().orElse(0);
            if (what == 6) return (int) all.stream().filter(s -> talk.endings.contains(s.line)).count();
            if (what == 7) return reached().values().stream().mapToInt(List::size).max().orElse(0);
            return OUTSIDE;
        }

        long rows(int line, int n) {
            if (noLine(line)) return UNKNOWN;
            if (n < 0 || n > 80) return OUTSIDE;
            BigInteger greatest = BigInteger.valueOf(Long.MAX_VALUE);
            Map<State, BigInteger> now = new HashMap<>();
            now.put(beginning, BigInteger.ONE);
            for (int k = 0; k < n; k++) {
                Map<State, BigInteger> next = new HashMap<>();
                for (Map.Entry<State, BigInteger> e : now.entrySet()) {
                    for (int a : openIn(e.getKey())) {
                        next.merge(talk.answers.get(a).behind(e.getKey()), e.getValue(), BigInteger::add);
                    }
                }
                now = next;
                if (now.values().stream().anyMatch(x -> x.compareTo(greatest) > 0)) return FULL;
            }
            BigInteger sum = BigInteger.ZERO;
            for (Map.Entry<State, BigInteger> e : now.entrySet()) {
                if (e.getKey().line == line) sum = sum.add(e.getValue());
            }
            return sum.compareTo(greatest) > 0 ? FULL : sum.longValueExact();
        }
    }

    /** Makes texts: mostly right ones, with as many lines, answers and marks as its size says. */
    static final class Writer {
        final Random random;

        Writer(Random random) {
            this.random = random;
        }

        String marks(int most, int kinds, boolean twice) {
            StringBuilder s = new StringBuilder();
            Set<Integer> used = new HashSet<>();
            int n = 1 + random.nextInt(most);
            for (int i = 0; i < n; i++) {
                int mark = random.nextInt(kinds);
                if (used.add(mark) || twice) s.append((char) ((random.nextInt(5) < 3 ? 'q' : 'Q') + mark));
            }
            return s.toString();
        }

        String text() {
            int lines = 1 + random.nextInt(random.nextInt(4) == 0 ? 16 : 6);
            int kinds = 1 + random.nextInt(6);
            int wanted = 1 + random.nextInt(random.nextInt(3) == 0 ? 34 : 14);
            int guards = random.nextInt(8), effects = random.nextInt(9), faults = random.nextInt(10);
            StringBuilder s = new StringBuilder();
            for (int i = 0; i < wanted; i++) {
                StringBuilder clause = new StringBuilder();
                clause.append((char) ('a' + random.nextInt(lines)));
                if (random.nextInt(12) == 0) {
                    clause.append(".;");
                } else {
                    clause.append('>').append((char) ('a' + random.nextInt(lines)));
                    if (random.nextInt(2) == 0) clause.append(random.nextInt(10));
                    if (random.nextInt(10) < guards) {
                        clause.append('?').append(marks(2, kinds, true));
                        for (int k = random.nextInt(6); k < 2; k++) clause.append('|').append(marks(2, kinds, true));
                    }
                    if (random.nextInt(10) < effects) clause.append('!').append(marks(3, kinds, false));
                    clause.append(';');
                }
                if (s.length() + clause.length() > 200) break;
                s.append(clause);
            }
            if (faults == 0) spoil(s);
            if (faults == 1) {
                for (int i = 0; i < 4 && s.length() < 200; i++) s.insert(random.nextInt(s.length() + 1), ' ');
            }
            return s.toString();
        }

        void spoil(StringBuilder s) {
            String letters = "abp>.;?!|qvQV059 rRw~\t\0\377";
            int place = random.nextInt(s.length());
            int how = random.nextInt(3);
            if (how == 0) s.deleteCharAt(place);
            else if (how == 1) s.setCharAt(place, letters.charAt(random.nextInt(letters.length())));
            else if (s.length() < 200) s.insert(place, letters.charAt(random.nextInt(letters.length())));
        }
    }

    static final class Pair {
        final BranchingTalks real = new BranchingTalks();
        final Model model = new Model();
        final StringBuilder log = new StringBuilder();
        final Random random;
        int calls = 0;
        boolean wrong = false;

        Pair(Random random) {
            this.random = random;
        }

        void check(String call, long got, long want) {
            calls++;
            log.append(call).append(" = ").append(got).append('\n');
            if (got != want && !wrong) {
                wrong = true;
                System.out.println(log + "the last one: due is " + want);
            }
        }

        void tell(String text) {
            for (int i = 0; i < text.length() && calls < CALLS; i++) {
                int c = text.charAt(i);
                check("write(" + c + ")", real.write(c), model.write(c));
            }
            if (calls < CALLS) check("talk()", real.talk(), model.talk());
            if (calls < CALLS) check("fault()", real.fault(), model.latestFault);
        }

        /** Mostly a number below the bound, now and then one at or beyond the edges. */
        int number(int bound) {
            if (random.nextInt(16) > 0) return random.nextInt(bound);
            int[] odd = {-1, bound, bound + 1, 16, 32, 64, 81, 255, 256, Integer.MIN_VALUE, Integer.MAX_VALUE, -1000};
            return odd[random.nextInt(odd.length)];
        }

        int answerNumber() {
            return number(model.talk == null ? 4 : Math.max(1, model.talk.answers.size()));
        }

        int lineNumber() {
            if (model.talk == null || random.nextInt(10) == 0) return number(16);
            return model.talk.named.get(random.nextInt(model.talk.named.size()));
        }

        void takeSome() {
            if (model.talk != null && random.nextInt(4) > 0) {
                List<Integer> open = model.openIn(model.here());
                if (!open.isEmpty()) {
                    int a = open.get(random.nextInt(open.size()));
                    check("take(" + a + ")", real.take(a), model.take(a));
                    return;
                }
            }
            int a = answerNumber();
            check("take(" + a + ")", real.take(a), model.take(a));
        }

        void doSomething() {
            int a = answerNumber();
            switch (random.nextInt(12)) {
                case 0: {
                    int m = number(64);
                    check("begin(" + m + ")", real.begin(m), model.begin(m));
                    break;
                }
                case 1: {
                    int n = number(random.nextInt(3) == 0 ? 61 : 4);
                    check("back(" + n + ")", real.back(n), model.back(n));
                    break;
                }
                case 2: case 3: {
                    int on = number(2);
                    check("cut(" + a + ", " + on + ")", real.cut(a, on), model.cut(a, on));
                    break;
                }
                case 4: case 5: {
                    int v = number(10);
                    check("cost(" + a + ", " + v + ")", real.cost(a, v), model.cost(a, v));
                    break;
                }
                case 6:
                    check("undo()", real.undo(), model.undo());
                    break;
                case 7: {
                    int w = number(256);
                    check("write(" + w + ")", real.write(w), model.write(w));
                    break;
                }
                default:
                    takeSome();
            }
        }

        void askSmall() {
            int a = answerNumber(), w = number(17), c = number(11), i = number(61), m = number(6), k = number(4);
            switch (random.nextInt(6)) {
                case 0: check("answer(" + a + ", " + w + ")", real.answer(a, w), model.answer(a, w)); break;
                case 1: check("count(" + c + ")", real.count(c), model.count(c)); break;
                case 2: check("step(" + i + ")", real.step(i), model.step(i)); break;
                case 3: check("fault()", real.fault(), model.latestFault); break;
                case 4: check("use(" + a + ")", real.use(a), model.use(a)); break;
                default: check("mark(" + m + ", " + k + ")", real.mark(m, k), model.mark(m, k));
            }
        }

        void askGreat() {
            int l = lineNumber(), w = number(6), two = number(2), i = number(8), n = number(81), h = number(8);
            switch (random.nextInt(8)) {
                case 0: check("line(" + l + ", " + w + ")", real.line(l, w), model.line(l, w)); break;
                case 1: check("least(" + l + ", " + two + ")", real.least(l, two), model.least(l, two)); break;
                case 2: check("row(" + l + ", " + i + ")", real.row(l, i), model.row(l, i)); break;
                case 3: check("needs(" + l + ")", real.needs(l), model.needs(l)); break;
                case 4: check("must(" + l + ", " + i + ")", real.must(l, i), model.must(l, i)); break;
                case 5: check("loop(" + l + ")", real.loop(l), model.loop(l)); break;
                case 6: check("whole(" + h + ")", real.whole(h), model.whole(h)); break;
                default: check("rows(" + l + ", " + n + ")", real.rows(l, n), model.rows(l, n));
            }
        }

        void goOn() {
            int kind = random.nextInt(10);
            if (kind < 3) doSomething();
            else if (kind < 6) askSmall();
            else askGreat();
        }
    }

    static boolean oneRun(long seed) {
        Random random = new Random(seed);
        Pair pair = new Pair(random);
        Writer writer = new Writer(random);
        for (int i = random.nextInt(12); i > 0; i--) pair.goOn();
        while (pair.calls < CALLS && !pair.wrong) {
            if (pair.model.talk == null || random.nextInt(150) == 0) pair.tell(writer.text());
            else pair.goOn();
        }
        if (pair.wrong) System.out.println("seed " + seed);
        return !pair.wrong;
    }

    public static void main(String[] args) {
        int runs = args.length > 0 ? Integer.parseInt(args[0]) : 400;
        long first = args.length > 1 ? Long.parseLong(args[1]) : 1;
        for (long seed = first; seed < first + runs; seed++) {
            if (!oneRun(seed)) System.exit(1);
        }
        System.out.println(runs + " runs are as the model has them");
    }
}
