import java.util.Arrays;

/**
 * Talks that branch: lines, and guarded answers that lead from line to line.
 *
 * <p>A state is a line and a set of marks, written as one number: line * 64 + marks. There are 1024
 * states at most and 64 moves of each answer, so all rows are made once, in the constructors, and
 * no call makes an object.
 */
public final class BranchingTalks {
    public static final int NONE = -1, UNKNOWN = -1000001, OUTSIDE = -1000002, NOT = -1000003, FULL = -1000004;

    private static final int LINES = 16, MARKS = 6, MARK_SETS = 64, STATES = 1024;
    private static final int ANSWERS = 32, ALTERNATIVES = 3, MOVES = 2048;
    private static final int GREATEST_COST = 9, BYTES = 200, STEPS = 60, ACTS = 12, LONGEST_ROW = 80;
    private static final int FIRST_WANTS = 10, FAULT_BASE = -100;
    private static final long MOST_ROWS = 9223372036854775807L;

    private final Reader reader;
    private final Course course;
    private final Acts acts;
    private final Graph graph;
    private final Search search;
    private final Hopes hopes;
    private final Loops loops;
    private final Prices prices;
    private final RowCounts rowCounts;
    private Script script;
    private Script spare;
    private boolean told;
    private boolean graphIsFresh;
    private boolean hopesAreFresh;
    private boolean loopsAreFresh;
    private boolean pricesAreFresh;

    public BranchingTalks() {
        reader = new Reader();
        course = new Course();
        acts = new Acts();
        graph = new Graph();
        search = new Search();
        hopes = new Hopes();
        loops = new Loops();
        prices = new Prices();
        rowCounts = new RowCounts();
        script = new Script();
        spare = new Script();
    }

    // ---- texts

    public int write(int letter) {
        if (letter < 0 || letter > 255) {
            return OUTSIDE;
        }
        return reader.append(letter) ? reader.size : FULL;
    }

    public int talk() {
        int place = reader.readInto(spare);
        if (place != NONE) {
            return FAULT_BASE - place;
        }
        Script old = script;
        script = spare;
        spare = old;
        told = true;
        acts.size = 0;
        course.restart(0);
        graphIsFresh = false;
        return script.answers;
    }

    public int fault() {
        return reader.latestFault;
    }

    // ---- what is done

    public int begin(int marks) {
        if (!told) {
            return UNKNOWN;
        }
        if (marks < 0 || marks >= MARK_SETS) {
            return OUTSIDE;
        }
        course.restart(marks);
        graphIsFresh = false;
        return script.start;
    }

    public int take(int answer) {
        if (!isAnswer(answer)) {
            return UNKNOWN;
        }
        if (!isOpenHere(answer)) {
            return NOT;
        }
        return course.advance(answer) ? course.lineHere(script) : FULL;
    }

    public int back(int n) {
        if (!told) {
            return UNKNOWN;
        }
        if (n < 1 || n > STEPS) {
            return OUTSIDE;
        }
        if (n > course.size) {
            return NOT;
        }
        course.size -= n;
        return course.lineHere(script);
    }

    public int cut(int answer, int on) {
        if (!isAnswer(answer)) {
            return UNKNOWN;
        }
        if (on != 0 && on != 1) {
            return OUTSIDE;
        }
        if (bit(script.cutAnswers, answer) == on) {
            return NOT;
        }
        acts.keep(answer, Acts.CUTTING, 1 - on);
        script.setCut(answer, on);
        graphIsFresh = false;
        return script.answers - Integer.bitCount(script.cutAnswers);
    }

    public int cost(int answer, int v) {
        if (!isAnswer(answer)) {
            return UNKNOWN;
        }
        if (v < 0 || v > GREATEST_COST) {
            return OUTSIDE;
        }
        int before = script.price[answer];
        acts.keep(answer, Acts.PRICING, before);
        script.price[answer] = v;
        pricesAreFresh = false;
        return before;
    }

    public int undo() {
        if (!told) {
            return UNKNOWN;
        }
        if (acts.size == 0) {
            return NOT;
        }
        acts.size--;
        int answer = acts.answer[acts.size];
        int before = acts.before[acts.size];
        if (acts.kind[acts.size] == Acts.CUTTING) {
            script.setCut(answer, before);
            graphIsFresh = false;
        } else {
            script.price[answer] = before;
            pricesAreFresh = false;
        }
        return acts.size;
    }

    // ---- what there is

    public int answer(int answer, int what) {
        if (!isAnswer(answer)) {
            return UNKNOWN;
        }
        switch (what) {
            case 0: return script.from[answer];
            case 1: return script.to[answer];
            case 2: return script.price[answer];
            case 3: return script.alternatives[answer];
            case 4: return script.lays[answer];
            case 5: return script.takes[answer];
            case 6: return bit(script.cutAnswers, answer);
            case 7: return isOpenHere(answer) ? 1 : 0;
            case 8: return script.guardContradictsItself(answer) ? 1 : 0;
            default: return alternativeSet(answer, what);
        }
    }

    public int count(int what) {
        if (what == 10) {
            return reader.size;
        }
        if (!told) {
            return UNKNOWN;
        }
        switch (what) {
            case 0: return course.lineHere(script);
            case 1: return course.marksHere(script);
            case 2: return course.size;
            case 3: return openHere();
            case 4: return course.priceOfSteps(script);
            case 5: return script.start;
            case 6: return script.there;
            case 7: return script.endings;
            case 8: return script.answers;
            case 9: return acts.size;
            default: return OUTSIDE;
        }
    }

    public int step(int i) {
        if (!told) {
            return UNKNOWN;
        }
        if (i < 0) {
            return OUTSIDE;
        }
        return i < course.size ? course.steps[i] : NONE;
    }

    // ---- what is come to

    public int line(int line, int what) {
        if (!isLine(line)) {
            return UNKNOWN;
        }
        refreshGraph();
        switch (what) {
            case 0: return graph.statesOf(line);
            case 1: return graph.marksInAll(line);
            case 2: return graph.marksInSome(line);
            case 3: return stuckStates(line);
            case 4: return lostStates(line);
            case 5: return bit(script.endings, line);
            default: return OUTSIDE;
        }
    }

    public int least(int line, int what) {
        if (!isLine(line)) {
            return UNKNOWN;
        }
        if (what != 0 && what != 1) {
            return OUTSIDE;
        }
        refreshGraph();
        int nearest = graph.nearest[line];
        if (nearest == NONE) {
            return NONE;
        }
        if (what == 0) {
            return graph.depth[nearest];
        }
        refreshPrices();
        return prices.cheapestOf(graph, line);
    }

    public int row(int line, int i) {
        if (!isLine(line)) {
            return UNKNOWN;
        }
        if (i < 0) {
            return OUTSIDE;
        }
        refreshGraph();
        return graph.answerOfRow(graph.nearest[line], i);
    }

    public int needs(int line) {
        if (!isLine(line)) {
            return UNKNOWN;
        }
        refreshGraph();
        if (graph.nearest[line] == NONE) {
            return NONE;
        }
        int needed = 0;
        for (int mark = 0; mark < MARKS; mark++) {
            if (bit(course.beginning, mark) == 0 && !search.comesTo(graph, line, script.answersThatLay(mark))) {
                needed |= 1 << mark;
            }
        }
        return needed;
    }

    public int must(int line, int i) {
        if (!isLine(line)) {
            return UNKNOWN;
        }
        if (i < 0) {
            return OUTSIDE;
        }
        refreshGraph();
        // What every row must take is in the shortest row too: no other answer has to be tried.
        int candidates = graph.answersOfRow(graph.nearest[line]);
        int found = 0;
        for (int answer = 0; answer < script.answers; answer++) {
            if (bit(candidates, answer) == 1 && !search.comesTo(graph, line, 1 << answer)) {
                if (found == i) {
                    return answer;
                }
                found++;
            }
        }
        return NONE;
    }

    public int loop(int line) {
        if (!isLine(line)) {
            return UNKNOWN;
        }
        refreshGraph();
        refreshLoops();
        // A loop passes no state twice, so none is longer than there are states.
        int tooLong = graph.states + 1;
        int shortest = tooLong;
        for (int at = 0; at < graph.states; at++) {
            if (graph.lineAt(at) == line && loops.looping[at]) {
                shortest = search.shortestLoop(graph, at, shortest);
            }
        }
        return shortest < tooLong ? shortest : NONE;
    }

    public int use(int answer) {
        if (!isAnswer(answer)) {
            return UNKNOWN;
        }
        refreshGraph();
        int open = graph.movesBy(answer);
        if (open == 0) {
            return 0;
        }
        return open == graph.statesOf(script.from[answer]) ? 2 : 1;
    }

    public int mark(int mark, int what) {
        if (!told || mark < 0 || mark >= MARKS) {
            return UNKNOWN;
        }
        switch (what) {
            case 0: return script.guardsThatName(mark);
            case 1: return script.effectsThatName(mark);
            case 2: return isMarkReached(mark) ? 1 : 0;
            case 3: return isAskedForInVain(mark) ? 1 : 0;
            default: return OUTSIDE;
        }
    }

    public int whole(int what) {
        if (!told) {
            return UNKNOWN;
        }
        refreshGraph();
        switch (what) {
            case 0: return graph.states;
            case 1: return script.there & ~graph.linesReached();
            case 2: return stuckLines();
            case 3: return lostLines();
            case 4: return loopingLines();
            case 5: return graph.mostMovesOfAState();
            case 6: return statesAtEndings();
            case 7: return graph.greatestDepth();
            default: return OUTSIDE;
        }
    }

    public long rows(int line, int n) {
        if (!isLine(line)) {
            return UNKNOWN;
        }
        if (n < 0 || n > LONGEST_ROW) {
            return OUTSIDE;
        }
        refreshGraph();
        return rowCounts.rowsTo(graph, line, n);
    }

    // ---- what the calls share

    private static int bit(int set, int member) {
        return (set >> member) & 1;
    }

    private boolean isLine(int line) {
        return told && line >= 0 && line < LINES && bit(script.there, line) == 1;
    }

    private boolean isAnswer(int answer) {
        return told && answer >= 0 && answer < script.answers;
    }

    private boolean isOpenHere(int answer) {
        return script.isOpen(answer, course.lineHere(script), course.marksHere(script));
    }

    private int openHere() {
        int open = 0;
        for (int answer = 0; answer < script.answers; answer++) {
            if (isOpenHere(answer)) {
                open++;
            }
        }
        return open;
    }

    private int alternativeSet(int answer, int what) {
        if (what < FIRST_WANTS || what >= FIRST_WANTS + 2 * script.alternatives[answer]) {
            return OUTSIDE;
        }
        int at = answer * ALTERNATIVES + (what - FIRST_WANTS) / 2;
        return (what - FIRST_WANTS) % 2 == 0 ? script.wants[at] : script.bars[at];
    }

    private void refreshGraph() {
        if (!graphIsFresh) {
            graph.explore(script, course.beginning);
            graphIsFresh = true;
            hopesAreFresh = false;
            loopsAreFresh = false;
            pricesAreFresh = false;
        }
    }

    private void refreshHopes() {
        if (!hopesAreFresh) {
            hopes.learn(graph, script.endings);
            hopesAreFresh = true;
        }
    }

    private void refreshLoops() {
        if (!loopsAreFresh) {
            loops.learn(graph);
            loopsAreFresh = true;
        }
    }

    private void refreshPrices() {
        if (!pricesAreFresh) {
            prices.learn(graph, script.price);
            pricesAreFresh = true;
        }
    }

    private boolean isStuck(int at) {
        return graph.movesFrom(at) == 0 && bit(script.endings, graph.lineAt(at)) == 0;
    }

    private int stuckStates(int line) {
        int stuck = 0;
        for (int at = 0; at < graph.states; at++) {
            if (graph.lineAt(at) == line && isStuck(at)) {
                stuck++;
            }
        }
        return stuck;
    }

    private int stuckLines() {
        int lines = 0;
        for (int at = 0; at < graph.states; at++) {
            if (isStuck(at)) {
                lines |= 1 << graph.lineAt(at);
            }
        }
        return lines;
    }

    private int lostStates(int line) {
        refreshHopes();
        int lost = 0;
        for (int at = 0; at < graph.states; at++) {
            if (graph.lineAt(at) == line && !hopes.canEnd[at]) {
                lost++;
            }
        }
        return lost;
    }

    private int lostLines() {
        refreshHopes();
        int lines = 0;
        for (int at = 0; at < graph.states; at++) {
            if (!hopes.canEnd[at]) {
                lines |= 1 << graph.lineAt(at);
            }
        }
        return lines;
    }

    private int loopingLines() {
        refreshLoops();
        int lines = 0;
        for (int at = 0; at < graph.states; at++) {
            if (loops.looping[at]) {
                lines |= 1 << graph.lineAt(at);
            }
        }
        return lines;
    }

    private int statesAtEndings() {
        int ended = 0;
        for (int at = 0; at < graph.states; at++) {
            ended += bit(script.endings, graph.lineAt(at));
        }
        return ended;
    }

    private boolean isMarkReached(int mark) {
        refreshGraph();
        for (int at = 0; at < graph.states; at++) {
            if (bit(graph.marksAt(at), mark) == 1) {
                return true;
            }
        }
        return false;
    }

    /**
     * Without a mark guards can only become wider, so all reached states stay reached: they are just
     * the same if none of them then has a move out of them.
     */
    private boolean isAskedForInVain(int mark) {
        if (script.guardsThatName(mark) == 0) {
            return false;
        }
        refreshGraph();
        for (int at = 0; at < graph.states; at++) {
            if (leadsOutWithout(mark, graph.lineAt(at), graph.marksAt(at))) {
                return false;
            }
        }
        return true;
    }

    private boolean leadsOutWithout(int mark, int line, int marks) {
        if (bit(script.endings, line) == 1) {
            return false;
        }
        for (int i = script.firstOfLine[line]; i < script.firstOfLine[line + 1]; i++) {
            int answer = script.byLine[i];
            if (bit(script.cutAnswers, answer) == 0
                    && script.guardHolds(answer, marks, 1 << mark)
                    && graph.place[script.stateBehind(answer, marks)] == NONE) {
                return true;
            }
        }
        return false;
    }

    /** The lines and answers of one talk. */
    private static final class Script {
        final int[] from = new int[ANSWERS];
        final int[] to = new int[ANSWERS];
        final int[] price = new int[ANSWERS];
        final int[] alternatives = new int[ANSWERS];
        final int[] wants = new int[ANSWERS * ALTERNATIVES];
        final int[] bars = new int[ANSWERS * ALTERNATIVES];
        final int[] lays = new int[ANSWERS];
        final int[] takes = new int[ANSWERS];
        /** All answers, those from one line side by side and rising. */
        final int[] byLine = new int[ANSWERS];
        final int[] firstOfLine = new int[LINES + 1];
        int answers;
        /** The answer, and the place of the alternative, that were added last. */
        int latest;
        int latestAlternative;
        int there;
        int endings;
        int start;
        int cutAnswers;

        void clear() {
            answers = 0;
            latest = 0;
            latestAlternative = 0;
            there = 0;
            endings = 0;
            start = 0;
            cutAnswers = 0;
        }

        void nameLine(int line) {
            if (there == 0) {
                start = line;
            }
            there |= 1 << line;
        }

        /** Answers whether there was room. */
        boolean addAnswer(int line) {
            if (answers >= ANSWERS) {
                return false;
            }
            latest = answers;
            answers++;
            from[latest] = line;
            to[latest] = line;
            price[latest] = 0;
            alternatives[latest] = 0;
            lays[latest] = 0;
            takes[latest] = 0;
            return true;
        }

        /** To the answer that was added last; answers whether there was room. */
        boolean addAlternative() {
            if (alternatives[latest] >= ALTERNATIVES) {
                return false;
            }
            latestAlternative = latest * ALTERNATIVES + alternatives[latest];
            alternatives[latest]++;
            wants[latestAlternative] = 0;
            bars[latestAlternative] = 0;
            return true;
        }

        void sortByLine() {
            int sorted = 0;
            for (int line = 0; line < LINES; line++) {
                firstOfLine[line] = sorted;
                for (int answer = 0; answer < answers; answer++) {
                    if (from[answer] == line && sorted < ANSWERS) {
                        byLine[sorted] = answer;
                        sorted++;
                    }
                }
            }
            firstOfLine[LINES] = sorted;
        }

        void setCut(int answer, int on) {
            cutAnswers = on == 1 ? cutAnswers | 1 << answer : cutAnswers & ~(1 << answer);
        }

        boolean isOpen(int answer, int line, int marks) {
            return from[answer] == line
                    && bit(cutAnswers, answer) == 0
                    && bit(endings, line) == 0
                    && guardHolds(answer, marks, 0);
        }

        /** Whether a guard holds, if the ignored marks stood in none of its alternatives. */
        boolean guardHolds(int answer, int marks, int ignored) {
            int first = answer * ALTERNATIVES;
            for (int at = first; at < first + alternatives[answer]; at++) {
                int missing = wants[at] & ~marks;
                int unwelcome = bars[at] & marks;
                if (((missing | unwelcome) & ~ignored) == 0) {
                    return true;
                }
            }
            return alternatives[answer] == 0;
        }

        boolean guardContradictsItself(int answer) {
            int first = answer * ALTERNATIVES;
            for (int at = first; at < first + alternatives[answer]; at++) {
                if ((wants[at] & bars[at]) == 0) {
                    return false;
                }
            }
            return alternatives[answer] > 0;
        }

        int marksBehind(int answer, int marks) {
            return (marks | lays[answer]) & ~takes[answer];
        }

        int stateBehind(int answer, int marks) {
            return to[answer] * MARK_SETS + marksBehind(answer, marks);
        }

        int answersThatLay(int mark) {
            int set = 0;
            for (int answer = 0; answer < answers; answer++) {
                set |= bit(lays[answer], mark) << answer;
            }
            return set;
        }

        int guardsThatName(int mark) {
            int guards = 0;
            for (int answer = 0; answer < answers; answer++) {
                guards += bit(marksOfGuard(answer), mark);
            }
            return guards;
        }

        int effectsThatName(int mark) {
            int effects = 0;
            for (int answer = 0; answer < answers; answer++) {
                effects += bit(lays[answer] | takes[answer], mark);
            }
            return effects;
        }

        private int marksOfGuard(int answer) {
            int named = 0;
            int first = answer * ALTERNATIVES;
            for (int at = first; at < first + alternatives[answer]; at++) {
                named |= wants[at] | bars[at];
            }
            return named;
        }
    }

    /** THE TEXT, and how it is read: token by token, each part telling what may stand next. */
    private static final class Reader {
        private static final int MISPLACED = 1, FOURTH_ALTERNATIVE = 2, TOO_MANY_ANSWERS = 3, NAMED_AGAIN = 4;
        private static final int AT_CLAUSE = 0, BEHIND_LINE = 1, BEHIND_DOT = 2, BEHIND_ARROW = 3;
        private static final int BEHIND_TO = 4, BEHIND_COST = 5, AT_ALTERNATIVE = 6, IN_ALTERNATIVE = 7;
        private static final int AT_EFFECT = 8, IN_EFFECT = 9;

        final int[] letters = new int[BYTES];
        int size;
        int latestFault;
        private int part;
        private int lineOfClause;

        /** Answers whether there was room. */
        boolean append(int letter) {
            if (size >= BYTES) {
                return false;
            }
            letters[size] = letter;
            size++;
            return true;
        }

        /** Reads and empties THE TEXT: the place of its first fault, or NONE. */
        int readInto(Script script) {
            int length = size;
            size = 0;
            script.clear();
            part = AT_CLAUSE;
            for (int place = 0; place < length; place++) {
                latestFault = letters[place] == ' ' ? 0 : accept(letters[place], script);
                if (latestFault != 0) {
                    return place;
                }
            }
            if (part != AT_CLAUSE || script.there == 0) {
                latestFault = MISPLACED;
                return length;
            }
            script.sortByLine();
            return NONE;
        }

        /** Each of these accepts answers the fault that the token has, or 0. */
        private int accept(int letter, Script script) {
            switch (part) {
                case AT_CLAUSE: return acceptFirstLine(letter, script);
                case BEHIND_LINE: return acceptArrowOrDot(letter, script);
                case BEHIND_DOT: return acceptClauseEnd(letter);
                case BEHIND_ARROW: return acceptSecondLine(letter, script);
                case BEHIND_TO: return acceptCost(letter, script);
                case BEHIND_COST: return acceptRest(letter, script);
                case AT_ALTERNATIVE: return acceptAsked(letter, script);
                case IN_ALTERNATIVE: return acceptMoreOfGuard(letter, script);
                case AT_EFFECT: return acceptChanged(letter, script);
                default: return acceptMoreOfEffect(letter, script);
            }
        }

        private int goOn(int nextPart) {
            part = nextPart;
            return 0;
        }

        private int acceptFirstLine(int letter, Script script) {
            if (letter < 'a' || letter > 'p') {
                return MISPLACED;
            }
            lineOfClause = letter - 'a';
            script.nameLine(lineOfClause);
            return goOn(BEHIND_LINE);
        }

        private int acceptArrowOrDot(int letter, Script script) {
            if (letter == '.') {
                script.endings |= 1 << lineOfClause;
                return goOn(BEHIND_DOT);
            }
            if (letter != '>') {
                return MISPLACED;
            }
            return script.addAnswer(lineOfClause) ? goOn(BEHIND_ARROW) : TOO_MANY_ANSWERS;
        }

        private int acceptClauseEnd(int letter) {
            return letter == ';' ? goOn(AT_CLAUSE) : MISPLACED;
        }

        private int acceptSecondLine(int letter, Script script) {
            if (letter < 'a' || letter > 'p') {
                return MISPLACED;
            }
            script.nameLine(letter - 'a');
            script.to[script.latest] = letter - 'a';
            return goOn(BEHIND_TO);
        }

        private int acceptCost(int letter, Script script) {
            if (letter < '0' || letter > '9') {
                return acceptRest(letter, script);
            }
            script.price[script.latest] = letter - '0';
            return goOn(BEHIND_COST);
        }

        /** What may follow a cost, or a guard: of these the guard alone can be there already. */
        private int acceptRest(int letter, Script script) {
            if (letter == '?' && part != IN_ALTERNATIVE) {
                return openAlternative(script);
            }
            if (letter == '!') {
                return goOn(AT_EFFECT);
            }
            return acceptClauseEnd(letter);
        }

        private int openAlternative(Script script) {
            return script.addAlternative() ? goOn(AT_ALTERNATIVE) : FOURTH_ALTERNATIVE;
        }

        private int acceptAsked(int letter, Script script) {
            int wanted = smallMark(letter);
            int barred = greatMark(letter);
            if ((wanted | barred) == 0) {
                return MISPLACED;
            }
            script.wants[script.latestAlternative] |= wanted;
            script.bars[script.latestAlternative] |= barred;
            return goOn(IN_ALTERNATIVE);
        }

        private int acceptMoreOfGuard(int letter, Script script) {
            if ((smallMark(letter) | greatMark(letter)) != 0) {
                return acceptAsked(letter, script);
            }
            return letter == '|' ? openAlternative(script) : acceptRest(letter, script);
        }

        private int acceptChanged(int letter, Script script) {
            int laid = smallMark(letter);
            int taken = greatMark(letter);
            if ((laid | taken) == 0) {
                return MISPLACED;
            }
            int answer = script.latest;
            if (((script.lays[answer] | script.takes[answer]) & (laid | taken)) != 0) {
                return NAMED_AGAIN;
            }
            script.lays[answer] |= laid;
            script.takes[answer] |= taken;
            return goOn(IN_EFFECT);
        }

        private int acceptMoreOfEffect(int letter, Script script) {
            return letter == ';' ? goOn(AT_CLAUSE) : acceptChanged(letter, script);
        }

        private static int smallMark(int letter) {
            return letter >= 'q' && letter <= 'v' ? 1 << (letter - 'q') : 0;
        }

        private static int greatMark(int letter) {
            return letter >= 'Q' && letter <= 'V' ? 1 << (letter - 'Q') : 0;
        }
    }

    /** The beginning and the steps; where they lead is told from them, so going back forgets nothing. */
    private static final class Course {
        final int[] steps = new int[STEPS];
        int size;
        int beginning;

        void restart(int marks) {
            beginning = marks;
            size = 0;
        }

        /** Answers whether there was room. */
        boolean advance(int answer) {
            if (size >= STEPS) {
                return false;
            }
            steps[size] = answer;
            size++;
            return true;
        }

        int lineHere(Script script) {
            return size == 0 ? script.start : script.to[steps[size - 1]];
        }

        int marksHere(Script script) {
            int marks = beginning;
            for (int i = 0; i < size; i++) {
                marks = script.marksBehind(steps[i], marks);
            }
            return marks;
        }

        int priceOfSteps(Script script) {
            int sum = 0;
            for (int i = 0; i < size; i++) {
                sum += script.price[steps[i]];
            }
            return sum;
        }
    }

    /** The latest acts, the oldest first, each with what was before it. */
    private static final class Acts {
        static final int CUTTING = 0, PRICING = 1;

        final int[] answer = new int[ACTS];
        final int[] kind = new int[ACTS];
        final int[] before = new int[ACTS];
        int size;

        void keep(int ofAnswer, int ofKind, int valueBefore) {
            if (size >= ACTS) {
                forgetOldest();
            }
            answer[size] = ofAnswer;
            kind[size] = ofKind;
            before[size] = valueBefore;
            size++;
        }

        private void forgetOldest() {
            size = ACTS - 1;
            System.arraycopy(answer, 1, answer, 0, size);
            System.arraycopy(kind, 1, kind, 0, size);
            System.arraycopy(before, 1, before, 0, size);
        }
    }

    /**
     * The reached states and the moves between them. States have places in the order in which they
     * are found: by the fewest answers, then by the first row. So the first place of a line is where
     * the row that is asked for leads.
     */
    private static final class Graph {
        final int[] state = new int[STATES];
        /** Of each state its place, or NONE. */
        final int[] place = new int[STATES];
        final int[] depth = new int[STATES];
        /** The move by which a state was found first. */
        final int[] via = new int[STATES];
        final int[] nearest = new int[LINES];
        /** The moves from a place are side by side, rising by answers. */
        final int[] first = new int[STATES + 1];
        final int[] moveFrom = new int[MOVES];
        final int[] moveTo = new int[MOVES];
        final int[] moveAnswer = new int[MOVES];
        /** The same moves by where they lead to. */
        final int[] backFirst = new int[STATES + 1];
        final int[] backFrom = new int[MOVES];
        int states;
        int moves;

        void explore(Script script, int beginning) {
            Arrays.fill(place, NONE);
            Arrays.fill(nearest, NONE);
            states = 0;
            moves = 0;
            admit(script.start * MARK_SETS + beginning, 0, NONE);
            for (int at = 0; at < STATES && at < states; at++) {
                first[at] = moves;
                addMovesFrom(at, script);
            }
            first[states] = moves;
            turnRound();
        }

        /** Answers whether there was room. */
        private boolean admit(int found, int answers, int move) {
            if (states >= STATES) {
                return false;
            }
            place[found] = states;
            state[states] = found;
            depth[states] = answers;
            via[states] = move;
            if (nearest[found / MARK_SETS] == NONE) {
                nearest[found / MARK_SETS] = states;
            }
            states++;
            return true;
        }

        private void addMovesFrom(int at, Script script) {
            int line = lineAt(at);
            int marks = marksAt(at);
            for (int i = script.firstOfLine[line]; i < script.firstOfLine[line + 1]; i++) {
                int answer = script.byLine[i];
                if (script.isOpen(answer, line, marks)) {
                    addMove(at, answer, script.stateBehind(answer, marks));
                }
            }
        }

        private void addMove(int from, int answer, int next) {
            if (moves >= MOVES || place[next] == NONE && !admit(next, depth[from] + 1, moves)) {
                return;
            }
            moveFrom[moves] = from;
            moveTo[moves] = place[next];
            moveAnswer[moves] = answer;
            moves++;
        }

        private void turnRound() {
            Arrays.fill(backFirst, 0);
            for (int move = 0; move < moves; move++) {
                backFirst[moveTo[move]]++;
            }
            for (int at = 1; at <= states; at++) {
                backFirst[at] += backFirst[at - 1];
            }
            // Now each entry is where its part ends; filled from behind, it becomes where that begins.
            for (int move = moves - 1; move >= 0; move--) {
                int to = moveTo[move];
                backFirst[to]--;
                backFrom[backFirst[to]] = moveFrom[move];
            }
        }

        int lineAt(int at) {
            return state[at] / MARK_SETS;
        }

        int marksAt(int at) {
            return state[at] % MARK_SETS;
        }

        int movesFrom(int at) {
            return first[at + 1] - first[at];
        }

        int statesOf(int line) {
            int found = 0;
            for (int at = 0; at < states; at++) {
                if (lineAt(at) == line) {
                    found++;
                }
            }
            return found;
        }

        int marksInAll(int line) {
            if (nearest[line] == NONE) {
                return 0;
            }
            int marks = MARK_SETS - 1;
            for (int at = 0; at < states; at++) {
                if (lineAt(at) == line) {
                    marks &= marksAt(at);
                }
            }
            return marks;
        }

        int marksInSome(int line) {
            int marks = 0;
            for (int at = 0; at < states; at++) {
                if (lineAt(at) == line) {
                    marks |= marksAt(at);
                }
            }
            return marks;
        }

        int linesReached() {
            int lines = 0;
            for (int at = 0; at < states; at++) {
                lines |= 1 << lineAt(at);
            }
            return lines;
        }

        int movesBy(int answer) {
            int found = 0;
            for (int move = 0; move < moves; move++) {
                if (moveAnswer[move] == answer) {
                    found++;
                }
            }
            return found;
        }

        int mostMovesOfAState() {
            int most = 0;
            for (int at = 0; at < states; at++) {
                most = Math.max(most, movesFrom(at));
            }
            return most;
        }

        int greatestDepth() {
            return states == 0 ? 0 : depth[states - 1];
        }

        /** Answer i of the first of the shortest rows to a place; NONE, too, if there is no place. */
        int answerOfRow(int end, int i) {
            if (end == NONE || i >= depth[end]) {
                return NONE;
            }
            int at = end;
            for (int last = depth[end] - 1; last > i; last--) {
                at = moveFrom[via[at]];
            }
            return moveAnswer[via[at]];
        }

        /** The set of all answers of that row. */
        int answersOfRow(int end) {
            int set = 0;
            if (end != NONE) {
                int at = end;
                for (int left = depth[end]; left > 0; left--) {
                    set |= 1 << moveAnswer[via[at]];
                    at = moveFrom[via[at]];
                }
            }
            return set;
        }
    }

    /** Searches through a graph, breadth first, on rows that each search uses again. */
    private static final class Search {
        private final int[] queue = new int[STATES];
        private final int[] distance = new int[STATES];
        private int queued;

        private void startAt(int at) {
            Arrays.fill(distance, NONE);
            queued = 0;
            enqueue(at, 0);
        }

        private void enqueue(int at, int answers) {
            if (distance[at] == NONE && queued < STATES) {
                distance[at] = answers;
                queue[queued] = at;
                queued++;
            }
        }

        /** Whether a line is reached without the banned answers. */
        boolean comesTo(Graph graph, int line, int banned) {
            startAt(0);
            for (int head = 0; head < STATES && head < queued; head++) {
                int at = queue[head];
                if (graph.lineAt(at) == line) {
                    return true;
                }
                for (int move = graph.first[at]; move < graph.first[at + 1]; move++) {
                    if (bit(banned, graph.moveAnswer[move]) == 0) {
                        enqueue(graph.moveTo[move], distance[at] + 1);
                    }
                }
            }
            return false;
        }

        /** The length of the shortest loop from a place, if it is below the bound; else the bound. */
        int shortestLoop(Graph graph, int origin, int bound) {
            startAt(origin);
            for (int head = 0; head < STATES && head < queued; head++) {
                int at = queue[head];
                int length = distance[at] + 1;
                if (length >= bound) {
                    return bound;
                }
                for (int move = graph.first[at]; move < graph.first[at + 1]; move++) {
                    if (graph.moveTo[move] == origin) {
                        return length;
                    }
                    enqueue(graph.moveTo[move], length);
                }
            }
            return bound;
        }
    }

    /** From which places an ending is come to: found backwards, from the endings. */
    private static final class Hopes {
        final boolean[] canEnd = new boolean[STATES];
        private final int[] queue = new int[STATES];
        private int queued;

        void learn(Graph graph, int endings) {
            queued = 0;
            for (int at = 0; at < graph.states; at++) {
                canEnd[at] = false;
                if (bit(endings, graph.lineAt(at)) == 1) {
                    admit(at);
                }
            }
            for (int head = 0; head < STATES && head < queued; head++) {
                int at = queue[head];
                for (int i = graph.backFirst[at]; i < graph.backFirst[at + 1]; i++) {
                    admit(graph.backFrom[i]);
                }
            }
        }

        private void admit(int at) {
            if (!canEnd[at] && queued < STATES) {
                canEnd[at] = true;
                queue[queued] = at;
                queued++;
            }
        }
    }

    /**
     * Which places are on a loop: those that share their strong component with another place, and
     * those with a move to themselves. Components are found by Kosaraju's way (depth first, then
     * backwards from what was finished last), with a stack of its own in place of recursion.
     */
    private static final class Loops {
        final boolean[] looping = new boolean[STATES];
        private final boolean[] seen = new boolean[STATES];
        private final int[] stack = new int[STATES];
        private final int[] nextMove = new int[STATES];
        private final int[] finished = new int[STATES];
        private final int[] member = new int[STATES];
        private int stacked;
        private int members;

        void learn(Graph graph) {
            finishAll(graph);
            clear(seen);
            clear(looping);
            members = 0;
            for (int i = graph.states - 1; i >= 0; i--) {
                gatherComponent(graph, finished[i]);
            }
            for (int move = 0; move < graph.moves; move++) {
                if (graph.moveFrom[move] == graph.moveTo[move]) {
                    looping[graph.moveFrom[move]] = true;
                }
            }
        }

        /** By hand, because Arrays.fill is free to use over numbers alone. */
        private static void clear(boolean[] flags) {
            for (int i = 0; i < flags.length; i++) {
                flags[i] = false;
            }
        }

        /** All places are come to from place 0; each turn uses up a move or a place. */
        private void finishAll(Graph graph) {
            clear(seen);
            stacked = 0;
            push(graph, 0);
            int done = 0;
            for (int turn = 0; turn < STATES + MOVES && stacked > 0 && done < STATES; turn++) {
                int at = stack[stacked - 1];
                if (nextMove[at] < graph.first[at + 1]) {
                    int to = graph.moveTo[nextMove[at]];
                    nextMove[at]++;
                    push(graph, to);
                } else {
                    finished[done] = at;
                    done++;
                    stacked--;
                }
            }
        }

        private void push(Graph graph, int at) {
            if (!seen[at] && stacked < STATES) {
                seen[at] = true;
                nextMove[at] = graph.first[at];
                stack[stacked] = at;
                stacked++;
            }
        }

        private void gatherComponent(Graph graph, int root) {
            int firstMember = members;
            join(root);
            for (int head = firstMember; head < STATES && head < members; head++) {
                int at = member[head];
                for (int i = graph.backFirst[at]; i < graph.backFirst[at + 1]; i++) {
                    join(graph.backFrom[i]);
                }
            }
            if (members - firstMember > 1) {
                for (int i = firstMember; i < members; i++) {
                    looping[member[i]] = true;
                }
            }
        }

        private void join(int at) {
            if (!seen[at] && members < STATES) {
                seen[at] = true;
                member[members] = at;
                members++;
            }
        }
    }

    /** The least costs to each place, by rounds over all moves until none makes a row cheaper. */
    private static final class Prices {
        private static final int UNPRICED = STATES * (GREATEST_COST + 1);

        private final int[] least = new int[STATES];

        void learn(Graph graph, int[] price) {
            Arrays.fill(least, UNPRICED);
            least[0] = 0;
            boolean changed = true;
            for (int round = 0; round < STATES && changed; round++) {
                changed = false;
                for (int move = 0; move < graph.moves; move++) {
                    int sum = least[graph.moveFrom[move]] + price[graph.moveAnswer[move]];
                    if (sum < least[graph.moveTo[move]]) {
                        least[graph.moveTo[move]] = sum;
                        changed = true;
                    }
                }
            }
        }

        int cheapestOf(Graph graph, int line) {
            int cheapest = UNPRICED;
            for (int at = 0; at < graph.states; at++) {
                if (graph.lineAt(at) == line) {
                    cheapest = Math.min(cheapest, least[at]);
                }
            }
            return cheapest;
        }
    }

    /** How many rows of just so many answers lead to each place. */
    private static final class RowCounts {
        private long[] now = new long[STATES];
        private long[] next = new long[STATES];

        long rowsTo(Graph graph, int line, int n) {
            Arrays.fill(now, 0L);
            now[0] = 1L;
            for (int k = 0; k < n; k++) {
                if (!lengthen(graph)) {
                    return FULL;
                }
            }
            long sum = 0L;
            for (int at = 0; at < graph.states; at++) {
                if (graph.lineAt(at) == line) {
                    if (now[at] > MOST_ROWS - sum) {
                        return FULL;
                    }
                    sum += now[at];
                }
            }
            return sum;
        }

        /** All rows by one answer more; false if some place then has more than can be told. */
        private boolean lengthen(Graph graph) {
            Arrays.fill(next, 0L);
            for (int move = 0; move < graph.moves; move++) {
                long more = now[graph.moveFrom[move]];
                int to = graph.moveTo[move];
                if (more > MOST_ROWS - next[to]) {
                    return false;
                }
                next[to] += more;
            }
            long[] old = now;
            now = next;
            next = old;
            return true;
        }
    }
}
