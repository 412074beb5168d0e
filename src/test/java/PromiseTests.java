/**
 * For each promise of the document: ordinary calls, the edges that it names, and each refusal, of
 * several the first in the document's order. What is refused must change nothing.
 */
public final class PromiseTests {
    private static final int NONE = -1, UNKNOWN = -1000001, OUTSIDE = -1000002, NOT = -1000003, FULL = -1000004;
    private static final int LOW = Integer.MIN_VALUE, HIGH = Integer.MAX_VALUE;
    private static int wrong = 0;
    private static int checks = 0;
    private static String promise = "";

    private static void due(String call, long got, long want) {
        checks++;
        if (got != want) {
            wrong++;
            System.out.println(promise + ": " + call + " answered " + got + ", due is " + want);
        }
    }

    private static void same(String call, String got, String want) {
        checks++;
        if (!got.equals(want)) {
            wrong++;
            System.out.println(promise + ": " + call + " left\n  " + got + "\nwhere there was\n  " + want);
        }
    }

    private static void put(BranchingTalks x, String text) {
        for (int i = 0; i < text.length(); i++) {
            x.write(text.charAt(i));
        }
    }

    private static BranchingTalks told(String text) {
        BranchingTalks x = new BranchingTalks();
        put(x, text);
        int answers = x.talk();
        if (answers < 0) {
            due("talk of " + text, answers, 0);
        }
        return x;
    }

    private static String times(String part, int n) {
        return part.repeat(n);
    }

    /** What can be seen of an object; few enough calls to look four times before the 512th. */
    private static String seen(BranchingTalks x) {
        StringBuilder s = new StringBuilder();
        s.append(x.fault());
        for (int what = 0; what <= 10; what++) s.append(' ').append(x.count(what));
        for (int a = 0; a < x.count(8); a++) {
            for (int what = 0; what <= 15; what++) s.append(' ').append(x.answer(a, what));
        }
        for (int i = 0; i < x.count(2); i++) s.append(' ').append(x.step(i));
        int lines = x.count(6);
        for (int line = 0; line < 16; line++) {
            if ((lines >> line & 1) == 1) {
                for (int what = 0; what <= 2; what++) s.append(' ').append(x.line(line, what));
                s.append(' ').append(x.least(line, 1)).append(' ').append(x.rows(line, 7));
            }
        }
        for (int what = 0; what <= 7; what++) s.append(' ').append(x.whole(what));
        return s.toString();
    }

    /** Whatever is asked of an object without a talk is unknown, even if a number is outside, too. */
    private static void p1NewObject() {
        BranchingTalks x = new BranchingTalks();
        due("fault()", x.fault(), 0);
        due("count(10)", x.count(10), 0);
        for (int what = -1; what <= 11; what++) {
            if (what != 10) due("count(" + what + ")", x.count(what), UNKNOWN);
        }
        due("begin(0)", x.begin(0), UNKNOWN);
        due("begin(64)", x.begin(64), UNKNOWN);
        due("take(0)", x.take(0), UNKNOWN);
        due("back(1)", x.back(1), UNKNOWN);
        due("back(0)", x.back(0), UNKNOWN);
        due("cut(0, 1)", x.cut(0, 1), UNKNOWN);
        due("cut(0, 2)", x.cut(0, 2), UNKNOWN);
        due("cost(0, 1)", x.cost(0, 1), UNKNOWN);
        due("cost(0, 10)", x.cost(0, 10), UNKNOWN);
        due("undo()", x.undo(), UNKNOWN);
        due("answer(0, 0)", x.answer(0, 0), UNKNOWN);
        due("step(0)", x.step(0), UNKNOWN);
        due("step(-1)", x.step(-1), UNKNOWN);
        due("line(0, 0)", x.line(0, 0), UNKNOWN);
        due("least(0, 0)", x.least(0, 0), UNKNOWN);
        due("row(0, 0)", x.row(0, 0), UNKNOWN);
        due("row(0, -1)", x.row(0, -1), UNKNOWN);
        due("needs(0)", x.needs(0), UNKNOWN);
        due("must(0, 0)", x.must(0, 0), UNKNOWN);
        due("loop(0)", x.loop(0), UNKNOWN);
        due("use(0)", x.use(0), UNKNOWN);
        due("mark(0, 0)", x.mark(0, 0), UNKNOWN);
        due("mark(0, 4)", x.mark(0, 4), UNKNOWN);
        due("whole(0)", x.whole(0), UNKNOWN);
        due("whole(8)", x.whole(8), UNKNOWN);
        due("rows(0, 0)", x.rows(0, 0), UNKNOWN);
        due("rows(0, 81)", x.rows(0, 81), UNKNOWN);
    }

    private static void p2Write() {
        BranchingTalks x = new BranchingTalks();
        due("write(0)", x.write(0), 1);
        due("write(255)", x.write(255), 2);
        due("write(-1)", x.write(-1), OUTSIDE);
        due("write(256)", x.write(256), OUTSIDE);
        due("write(LOW)", x.write(LOW), OUTSIDE);
        due("write(HIGH)", x.write(HIGH), OUTSIDE);
        due("write(353)", x.write(256 + 'a'), OUTSIDE);
        due("count(10)", x.count(10), 2);
        for (int i = 3; i <= 200; i++) due("write(97)", x.write(97), i);
        due("write(97), full", x.write(97), FULL);
        due("write(256), full", x.write(256), OUTSIDE);
        due("count(10), full", x.count(10), 200);
        due("talk()", x.talk(), -100);
        due("count(10), read", x.count(10), 0);
        due("write(97), read", x.write(97), 1);
    }

    private static void reads(String text, int answer, int fault) {
        BranchingTalks x = new BranchingTalks();
        put(x, text);
        due("talk() of \"" + text + "\"", x.talk(), answer);
        due("fault() of \"" + text + "\"", x.fault(), fault);
        due("count(10) behind \"" + text + "\"", x.count(10), 0);
        due("count(5) behind \"" + text + "\"", x.count(5) == UNKNOWN ? 1 : 0, answer < 0 ? 1 : 0);
    }

    private static void p3TalkRight() {
        reads("a.;", 0, 0);
        reads("a.;a.;", 0, 0);
        reads("p>p;", 1, 0);
        reads("a>b;", 1, 0);
        reads("a>b0;", 1, 0);
        reads("a>b9?qQ!v;", 1, 0);
        reads("a>b?q;", 1, 0);
        reads("a>b!Q;", 1, 0);
        reads("a>b?qqQQ|rrr|sS!qRsTuV;", 1, 0);
        reads("  a  >  b  5  ?  q  Q  |  R  !  q  R  ;  ", 1, 0);
        reads("a>b;b.;", 1, 0);
        reads(times("a>b;", 32), 32, 0);
        reads(times("a>b;", 32) + times("c.;", 22), 32, 0);
        reads(times("a>b;", 32) + times(" ", 72), 32, 0);
    }

    private static void p3TalkMisplaced() {
        reads("", -100, 1);
        reads("   ", -103, 1);
        reads("a", -101, 1);
        reads("a ", -102, 1);
        reads("a.", -102, 1);
        reads("a>", -102, 1);
        reads("a>b", -103, 1);
        reads("a>b  ", -105, 1);
        reads("a>b5", -104, 1);
        reads("a>b?", -104, 1);
        reads("a>b?q", -105, 1);
        reads("a>b?q|", -106, 1);
        reads("a>b!", -104, 1);
        reads("a>b!q", -105, 1);
        reads("a>b;c", -105, 1);
        reads(";", -100, 1);
        reads("A>b;", -100, 1);
        reads("q>b;", -100, 1);
        reads("`>b;", -100, 1);
        reads("a>q;", -102, 1);
        reads("a>B;", -102, 1);
        reads("a>`;", -102, 1);
        reads("ab;", -101, 1);
        reads("a.b;", -102, 1);
        reads("a.>b;", -102, 1);
        reads("a..;", -102, 1);
        reads("a>b.;", -103, 1);
        reads("a>b55;", -104, 1);
        reads("a>b/;", -103, 1);
        reads("a>b:;", -103, 1);
        reads("a>b;;", -104, 1);
        reads("a>b\t;", -103, 1);
        reads("a>b\0;", -103, 1);
        reads("a>b\377;", -103, 1);
        reads("a>b?;", -104, 1);
        reads("a>b?5;", -104, 1);
        reads("a>b?q5;", -105, 1);
        reads("a>b?q?r;", -105, 1);
        reads("a>b?q||r;", -106, 1);
        reads("a>b?|q;", -104, 1);
        reads("a>b|q;", -103, 1);
        reads("a>b?p;", -104, 1);
        reads("a>b?w;", -104, 1);
        reads("a>b?P;", -104, 1);
        reads("a>b?W;", -104, 1);
        reads("a>b?qa;", -105, 1);
        reads("a>b?q!;", -106, 1);
        reads("a>b!;", -104, 1);
        reads("a>b!q!r;", -105, 1);
        reads("a>b!q?r;", -105, 1);
        reads("a>b!q|r;", -105, 1);
        reads("a>b!w;", -104, 1);
        reads("a>b!P;", -104, 1);
        reads("a>b!q5;", -105, 1);
        reads("a>b?q;c>", -108, 1);
        reads(" a > b ; ; ", -109, 1);
    }

    private static void p3TalkOtherFaults() {
        reads("a>b?q|r|s|t;", -109, 2);
        reads("a>b?q|r|s|;", -109, 2);
        reads("a>b?q|r|s |", -110, 2);
        reads("a>b?q|r||s;", -108, 1);
        reads("a>b?q|r|s;a>c?q|r|s;", 2, 0);
        reads(times("a>b;", 32) + "a>b;", -229, 3);
        reads(times("a>b;", 32) + "a >", -230, 3);
        reads(times("a>b;", 32) + "a>?", -229, 3);
        reads(times("a>b;", 32) + "a?b;", -229, 1);
        reads(times("a>b;", 32) + "q>b;", -228, 1);
        reads("a>b!qq;", -105, 4);
        reads("a>b!qQ;", -105, 4);
        reads("a>b!Qq;", -105, 4);
        reads("a>b!QQ;", -105, 4);
        reads("a>b!qrs  Rq;", -109, 4);
        reads("a>b!qrR", -106, 4);
        reads("a>b!q;a>b!q;", 2, 0);
        reads("a>b?q!q;", 1, 0);
        reads("a>b!vv;c", -105, 4);
        reads("a>b!uvwu;", -106, 1);
    }

    private static void p3TalkInPlace() {
        BranchingTalks x = told("c>d3?q!r;d>c!Q;e.;");
        x.begin(5);
        x.take(0);
        x.cut(1, 1);
        x.cost(0, 7);
        String before = seen(x).substring(1);
        put(x, "a>b;a>a?");
        due("talk()", x.talk(), -108);
        due("fault()", x.fault(), 1);
        same("talk() with a fault", seen(x).substring(1), before);
        put(x, "b>a1;b.;");
        due("talk()", x.talk(), 1);
        due("count(0)", x.count(0), 1);
        due("count(1)", x.count(1), 0);
        due("count(2)", x.count(2), 0);
        due("count(5)", x.count(5), 1);
        due("count(6)", x.count(6), 3);
        due("count(7)", x.count(7), 2);
        due("count(8)", x.count(8), 1);
        due("count(9)", x.count(9), 0);
        due("undo()", x.undo(), NOT);
        due("answer(0, 0)", x.answer(0, 0), 1);
        due("answer(0, 2)", x.answer(0, 2), 1);
        due("answer(0, 3)", x.answer(0, 3), 0);
        due("answer(0, 4)", x.answer(0, 4), 0);
        due("answer(1, 0)", x.answer(1, 0), UNKNOWN);
        due("line(2, 0)", x.line(2, 0), UNKNOWN);
        due("whole(0)", x.whole(0), 1);
        put(x, "a>b;b>c;");
        x.talk();
        due("answer(1, 6), the talk before had cut it", x.answer(1, 6), 0);
        due("count(7), the talk before had one", x.count(7), 0);
    }

    /** A talk that comes behind others is as if it were the first one. */
    private static void p3TalkBehindOthers() {
        String rich = times("n>o9?qrSQ|sRTU|uvQ!qrsTUV;", 7);
        String plain = "d>e?q|R;e>d!r;";
        BranchingTalks x = told(rich);
        put(x, rich.replace('n', 'c'));
        due("talk()", x.talk(), 7);
        put(x, plain);
        due("talk()", x.talk(), 2);
        same("talk() behind others", seen(x), seen(told(plain)));
        x = told(rich);
        put(x, rich.substring(0, 100));
        due("talk()", x.talk(), -200);
        put(x, plain);
        due("talk()", x.talk(), 2);
        same("talk() behind a fault", seen(x).substring(1), seen(told(plain)).substring(1));
    }

    private static void p4Fault() {
        BranchingTalks x = new BranchingTalks();
        due("fault()", x.fault(), 0);
        put(x, "a>b!qq;");
        due("fault(), not read", x.fault(), 0);
        x.talk();
        due("fault()", x.fault(), 4);
        due("fault(), again", x.fault(), 4);
        put(x, "a>b;");
        due("fault(), not read yet", x.fault(), 4);
        x.talk();
        due("fault(), none", x.fault(), 0);
        x.talk();
        due("fault(), empty", x.fault(), 1);
        put(x, "a>b?q|r|s|t;");
        x.talk();
        due("fault()", x.fault(), 2);
        x.begin(0);
        due("fault(), begun", x.fault(), 2);
    }

    private static void p5Begin() {
        BranchingTalks x = told("d>d?q!R;d>e;");
        due("begin(3)", x.begin(3), 3);
        due("count(1)", x.count(1), 3);
        due("whole(0)", x.whole(0), 4);
        x.take(0);
        due("count(1)", x.count(1), 1);
        due("begin(63)", x.begin(63), 3);
        due("count(1)", x.count(1), 63);
        due("count(2)", x.count(2), 0);
        x.take(0);
        x.cut(0, 1);
        String before = seen(x);
        due("begin(64)", x.begin(64), OUTSIDE);
        due("begin(-1)", x.begin(-1), OUTSIDE);
        due("begin(LOW)", x.begin(LOW), OUTSIDE);
        due("begin(HIGH)", x.begin(HIGH), OUTSIDE);
        same("begin, refused", seen(x), before);
        due("begin(0)", x.begin(0), 3);
        due("count(1)", x.count(1), 0);
        due("answer(0, 6), begun", x.answer(0, 6), 1);
        due("count(9), begun", x.count(9), 1);
        due("whole(0)", x.whole(0), 2);
    }

    private static void p6Take() {
        BranchingTalks x = told("a>b!qR;b>a?q!Qr;b>b?Q;b>c;c.;c>a;a>a?Rs;");
        due("take(1)", x.take(1), NOT);
        due("take(0)", x.take(0), 1);
        due("count(1)", x.count(1), 1);
        due("take(2)", x.take(2), NOT);
        due("take(0)", x.take(0), NOT);
        due("take(1)", x.take(1), 0);
        due("count(1)", x.count(1), 2);
        String before = seen(x);
        due("take(5)", x.take(5), NOT);
        due("take(6)", x.take(6), UNKNOWN);
        due("take(-1)", x.take(-1), UNKNOWN);
        due("take(LOW)", x.take(LOW), UNKNOWN);
        due("take(HIGH)", x.take(HIGH), UNKNOWN);
        same("take, refused", seen(x), before);
        x.take(0);
        due("take(3)", x.take(3), 2);
        due("take(4), at an ending", x.take(4), NOT);
        x = told("a>a;a>b;");
        x.cut(0, 1);
        due("take(0), cut", x.take(0), NOT);
        x.cut(0, 0);
        for (int i = 0; i < 60; i++) due("take(0)", x.take(0), 0);
        before = seen(x);
        due("take(0), full", x.take(0), FULL);
        due("take(1), full", x.take(1), FULL);
        due("take(2), full", x.take(2), UNKNOWN);
        same("take, full", seen(x), before);
        x.cut(0, 1);
        due("take(0), full and cut", x.take(0), NOT);
        due("back(1)", x.back(1), 0);
        due("take(1)", x.take(1), 1);
        due("count(2)", x.count(2), 60);
    }

    private static void p6Guards() {
        BranchingTalks x = told("a>b?qS|rs|TU;");
        int[] open = new int[64];
        for (int marks = 0; marks < 64; marks++) {
            boolean q = (marks & 1) != 0, r = (marks & 2) != 0, s = (marks & 4) != 0, t = (marks & 8) != 0;
            boolean u = (marks & 16) != 0;
            open[marks] = q && !s || r && s || !t && !u ? 1 : 0;
            x.begin(marks);
            due("take(0) with " + marks, x.take(0), open[marks] == 1 ? 1 : NOT);
        }
    }

    private static void p7Back() {
        BranchingTalks x = told("a>b!q;b>c!r;c>a!Qs;");
        x.begin(32);
        x.take(0);
        x.take(1);
        x.take(2);
        due("count(1)", x.count(1), 38);
        String before = seen(x);
        due("back(4)", x.back(4), NOT);
        due("back(60)", x.back(60), NOT);
        due("back(61)", x.back(61), OUTSIDE);
        due("back(0)", x.back(0), OUTSIDE);
        due("back(-1)", x.back(-1), OUTSIDE);
        due("back(LOW)", x.back(LOW), OUTSIDE);
        due("back(HIGH)", x.back(HIGH), OUTSIDE);
        same("back, refused", seen(x), before);
        due("back(1)", x.back(1), 2);
        due("count(1)", x.count(1), 35);
        due("count(2)", x.count(2), 2);
        due("step(2)", x.step(2), NONE);
        x.cut(1, 1);
        x.cost(0, 4);
        due("back(1)", x.back(1), 1);
        due("count(1)", x.count(1), 33);
        due("answer(1, 6)", x.answer(1, 6), 1);
        due("answer(0, 2)", x.answer(0, 2), 4);
        due("count(9)", x.count(9), 2);
        due("take(1), cut", x.take(1), NOT);
        due("back(1)", x.back(1), 0);
        due("count(1)", x.count(1), 32);
        due("back(1)", x.back(1), NOT);
        x = told("a>a;");
        for (int i = 0; i < 60; i++) x.take(0);
        due("back(60)", x.back(60), 0);
        due("count(2)", x.count(2), 0);
    }

    private static void p8Cut() {
        BranchingTalks x = told("a>b;b>c;c>a;");
        x.take(0);
        x.take(1);
        due("cut(1, 1)", x.cut(1, 1), 2);
        due("cut(0, 1)", x.cut(0, 1), 1);
        due("whole(0)", x.whole(0), 1);
        due("count(2)", x.count(2), 2);
        due("count(0)", x.count(0), 2);
        String before = seen(x);
        due("cut(1, 1)", x.cut(1, 1), NOT);
        due("cut(2, 0)", x.cut(2, 0), NOT);
        due("cut(1, 2)", x.cut(1, 2), OUTSIDE);
        due("cut(1, -1)", x.cut(1, -1), OUTSIDE);
        due("cut(3, 1)", x.cut(3, 1), UNKNOWN);
        due("cut(3, 2)", x.cut(3, 2), UNKNOWN);
        due("cut(-1, 1)", x.cut(-1, 1), UNKNOWN);
        due("cut(HIGH, LOW)", x.cut(HIGH, LOW), UNKNOWN);
        same("cut, refused", seen(x), before);
        due("cut(0, 0)", x.cut(0, 0), 2);
        due("whole(0)", x.whole(0), 2);
        due("cut(1, 0)", x.cut(1, 0), 3);
        due("whole(0)", x.whole(0), 3);
        due("count(9)", x.count(9), 4);
        x = told(times("a>b;", 32));
        due("cut(31, 1)", x.cut(31, 1), 31);
        due("answer(31, 6)", x.answer(31, 6), 1);
        due("answer(30, 6)", x.answer(30, 6), 0);
        due("count(3)", x.count(3), 31);
        due("rows(1, 1)", x.rows(1, 1), 31);
        for (int a = 0; a < 31; a++) due("cut(" + a + ", 1)", x.cut(a, 1), 30 - a);
        due("cut(31, 0)", x.cut(31, 0), 1);
    }

    private static void p9Cost() {
        BranchingTalks x = told("a>b4;b>a;");
        due("cost(0, 9)", x.cost(0, 9), 4);
        due("cost(0, 0)", x.cost(0, 0), 9);
        due("cost(0, 0), again", x.cost(0, 0), 0);
        due("cost(1, 5)", x.cost(1, 5), 0);
        due("answer(1, 2)", x.answer(1, 2), 5);
        due("count(9)", x.count(9), 4);
        String before = seen(x);
        due("cost(0, 10)", x.cost(0, 10), OUTSIDE);
        due("cost(0, -1)", x.cost(0, -1), OUTSIDE);
        due("cost(2, 1)", x.cost(2, 1), UNKNOWN);
        due("cost(2, 10)", x.cost(2, 10), UNKNOWN);
        due("cost(-1, 1)", x.cost(-1, 1), UNKNOWN);
        same("cost, refused", seen(x), before);
    }

    private static void p10Undo() {
        BranchingTalks x = told("a>b4;b>a?q;a>a;");
        due("undo(), none", x.undo(), NOT);
        x.cost(0, 5);
        x.cost(0, 5);
        x.cut(0, 1);
        x.cut(0, 0);
        x.cost(0, 1);
        x.take(0);
        String before = seen(x);
        x.cost(1, 8);
        x.cut(1, 1);
        due("undo()", x.undo(), 6);
        due("undo()", x.undo(), 5);
        same("undo of what was done", seen(x), before);
        due("undo()", x.undo(), 4);
        due("answer(0, 2)", x.answer(0, 2), 5);
        due("undo()", x.undo(), 3);
        due("answer(0, 6), cut again", x.answer(0, 6), 1);
        due("whole(0)", x.whole(0), 1);
        due("undo()", x.undo(), 2);
        due("answer(0, 6)", x.answer(0, 6), 0);
        due("whole(0)", x.whole(0), 2);
        due("undo()", x.undo(), 1);
        due("answer(0, 2), the same", x.answer(0, 2), 5);
        due("undo()", x.undo(), 0);
        due("answer(0, 2)", x.answer(0, 2), 4);
        before = seen(x);
        due("undo(), no more", x.undo(), NOT);
        same("undo, refused", seen(x), before);
        due("count(2)", x.count(2), 1);
    }

    private static void p10UndoOfMany() {
        BranchingTalks x = told("a>b;b>a;");
        x.cut(1, 1);
        for (int v = 1; v <= 9; v++) x.cost(0, v);
        x.cost(1, 1);
        x.cost(1, 2);
        due("count(9)", x.count(9), 12);
        x.cost(1, 3);
        due("count(9), of more", x.count(9), 12);
        x.cost(1, 4);
        due("count(9), of more", x.count(9), 12);
        for (int left = 11; left >= 9; left--) due("undo()", x.undo(), left);
        due("answer(1, 2)", x.answer(1, 2), 1);
        due("undo()", x.undo(), 8);
        due("answer(1, 2)", x.answer(1, 2), 0);
        for (int v = 8; v >= 1; v--) {
            due("undo()", x.undo(), v - 1);
            due("answer(0, 2)", x.answer(0, 2), v);
        }
        due("undo(), forgotten", x.undo(), NOT);
        due("answer(0, 2), forgotten", x.answer(0, 2), 1);
        due("answer(1, 6), forgotten", x.answer(1, 6), 1);
    }

    private static void p11Answer() {
        BranchingTalks x = told("b>p7?qrQ|vS|T!qvRS;p>b;b>b?qQ|rR;b>b?qQ|r;");
        int[] want = {1, 15, 7, 3, 33, 6, 0, 1, 0, OUTSIDE, 3, 1, 32, 4, 0, 8, OUTSIDE, OUTSIDE};
        for (int what = 0; what < want.length; what++) {
            due("answer(0, " + what + ")", x.answer(0, what), want[what]);
        }
        due("answer(1, 0)", x.answer(1, 0), 15);
        due("answer(1, 1)", x.answer(1, 1), 1);
        due("answer(1, 2)", x.answer(1, 2), 0);
        due("answer(1, 3)", x.answer(1, 3), 0);
        due("answer(1, 7)", x.answer(1, 7), 0);
        due("answer(1, 8), no guard", x.answer(1, 8), 0);
        due("answer(1, 10)", x.answer(1, 10), OUTSIDE);
        due("answer(1, 11)", x.answer(1, 11), OUTSIDE);
        due("answer(2, 8)", x.answer(2, 8), 1);
        due("answer(2, 13)", x.answer(2, 13), 2);
        due("answer(2, 14)", x.answer(2, 14), OUTSIDE);
        due("answer(3, 8)", x.answer(3, 8), 0);
        due("answer(0, -1)", x.answer(0, -1), OUTSIDE);
        due("answer(0, LOW)", x.answer(0, LOW), OUTSIDE);
        due("answer(0, HIGH)", x.answer(0, HIGH), OUTSIDE);
        due("answer(4, 0)", x.answer(4, 0), UNKNOWN);
        due("answer(4, 9)", x.answer(4, 9), UNKNOWN);
        due("answer(-1, 0)", x.answer(-1, 0), UNKNOWN);
        due("answer(HIGH, 0)", x.answer(HIGH, 0), UNKNOWN);
        x.cut(0, 1);
        due("answer(0, 6), cut", x.answer(0, 6), 1);
        due("answer(0, 7), cut", x.answer(0, 7), 0);
        x = told("a>b?q;a.;");
        x.begin(1);
        due("answer(0, 7), at an ending", x.answer(0, 7), 0);
    }

    private static void p12Count() {
        BranchingTalks x = told("c>a3!q;a>c4?q!u;a>a?Q;n.;c>c?Q;");
        int[] want = {2, 0, 0, 2, 0, 2, 8197, 8192, 4, 0, 0};
        for (int what = 0; what < want.length; what++) {
            due("count(" + what + ")", x.count(what), want[what]);
        }
        x.take(0);
        x.take(1);
        x.take(0);
        x.cost(0, 9);
        put(x, "a >");
        int[] then = {0, 17, 3, 1, 22, 2, 8197, 8192, 4, 1, 3};
        for (int what = 0; what < then.length; what++) {
            due("count(" + what + "), gone on", x.count(what), then[what]);
        }
        due("count(11)", x.count(11), OUTSIDE);
        due("count(-1)", x.count(-1), OUTSIDE);
        due("count(HIGH)", x.count(HIGH), OUTSIDE);
        x = told("o.;b.;");
        due("count(7), two", x.count(7), 16386);
        due("count(3)", x.count(3), 0);
        due("count(8)", x.count(8), 0);
    }

    private static void p13Step() {
        BranchingTalks x = told("a>b;b>a;a>a;");
        due("step(0), none", x.step(0), NONE);
        x.take(2);
        x.take(0);
        x.take(1);
        due("step(0)", x.step(0), 2);
        due("step(1)", x.step(1), 0);
        due("step(2)", x.step(2), 1);
        due("step(3)", x.step(3), NONE);
        due("step(60)", x.step(60), NONE);
        due("step(HIGH)", x.step(HIGH), NONE);
        due("step(-1)", x.step(-1), OUTSIDE);
        due("step(LOW)", x.step(LOW), OUTSIDE);
        x.back(2);
        due("step(1), gone back", x.step(1), NONE);
        x.begin(0);
        due("step(0), begun", x.step(0), NONE);
        x = told("a>a;a>a;");
        for (int i = 0; i < 60; i++) x.take(i % 2);
        due("step(59)", x.step(59), 1);
        due("step(60)", x.step(60), NONE);
    }

    private static final String STORY = "a>b!q;a>b!r;b>c?q!s;b>d?r;d>d!t;c>e;e.;f>a;b>g!u;";

    private static void p14Line() {
        BranchingTalks x = told(STORY);
        int[][] want = {
            {1, 0, 0, 0, 0, 0}, {2, 0, 3, 0, 1, 0}, {1, 5, 5, 0, 0, 0}, {2, 2, 10, 0, 2, 0},
            {1, 5, 5, 0, 0, 1}, {0, 0, 0, 0, 0, 0}, {2, 16, 19, 2, 2, 0}};
        for (int line = 0; line < want.length; line++) {
            for (int what = 0; what < 6; what++) {
                due("line(" + line + ", " + what + ")", x.line(line, what), want[line][what]);
            }
        }
        due("line(0, 6)", x.line(0, 6), OUTSIDE);
        due("line(0, -1)", x.line(0, -1), OUTSIDE);
        due("line(7, 0), not there", x.line(7, 0), UNKNOWN);
        due("line(7, 6), not there", x.line(7, 6), UNKNOWN);
        due("line(16, 0)", x.line(16, 0), UNKNOWN);
        due("line(32, 0)", x.line(32, 0), UNKNOWN);
        due("line(-1, 0)", x.line(-1, 0), UNKNOWN);
        due("line(LOW, 0)", x.line(LOW, 0), UNKNOWN);
        x.begin(32);
        due("line(1, 1), begun", x.line(1, 1), 32);
        x.take(0);
        due("line(0, 0), from the beginning, not from here", x.line(0, 0), 1);
    }

    /** What was told of the states before must not stay when answers are cut, or it is begun anew. */
    private static void p14LineAnew() {
        BranchingTalks x = told("a>b;b>c;c.;b>b;a>d?q;");
        due("line(0, 4)", x.line(0, 4), 0);
        due("line(1, 3)", x.line(1, 3), 0);
        due("whole(4)", x.whole(4), 2);
        x.cut(1, 1);
        due("line(0, 4), cut", x.line(0, 4), 1);
        due("line(1, 4), cut", x.line(1, 4), 1);
        due("whole(3), cut", x.whole(3), 3);
        x.cut(2, 1);
        due("line(1, 3), cut", x.line(1, 3), 1);
        due("whole(4), cut", x.whole(4), 0);
        due("loop(1), cut", x.loop(1), NONE);
        x.begin(1);
        due("whole(2), begun", x.whole(2), 10);
        x.undo();
        due("whole(4), undone", x.whole(4), 2);
        x.undo();
        due("whole(3), undone", x.whole(3), 8);
        x.cut(0, 1);
        x.begin(0);
        due("line(0, 3), stuck at the beginning", x.line(0, 3), 1);
        due("line(0, 4), stuck at the beginning", x.line(0, 4), 1);
        due("whole(2), stuck at the beginning", x.whole(2), 1);
    }

    private static void p15Least() {
        BranchingTalks x = told("a>b9;a>c1;c>d1;d>b1;a>a!q;e>a;d>f5?q;");
        due("least(0, 0)", x.least(0, 0), 0);
        due("least(0, 1)", x.least(0, 1), 0);
        due("least(1, 0)", x.least(1, 0), 1);
        due("least(1, 1)", x.least(1, 1), 3);
        due("least(5, 0)", x.least(5, 0), 4);
        due("least(5, 1)", x.least(5, 1), 7);
        due("least(4, 0)", x.least(4, 0), NONE);
        due("least(4, 1)", x.least(4, 1), NONE);
        due("least(0, 2)", x.least(0, 2), OUTSIDE);
        due("least(0, -1)", x.least(0, -1), OUTSIDE);
        due("least(4, 2)", x.least(4, 2), OUTSIDE);
        due("least(6, 0)", x.least(6, 0), UNKNOWN);
        due("least(6, 2)", x.least(6, 2), UNKNOWN);
        due("least(-1, 0)", x.least(-1, 0), UNKNOWN);
        due("least(16, 0)", x.least(16, 0), UNKNOWN);
        x.cost(3, 9);
        due("least(1, 1), told anew", x.least(1, 1), 9);
        x.undo();
        due("least(1, 1), undone", x.least(1, 1), 3);
        x.cut(2, 1);
        due("least(1, 1), cut", x.least(1, 1), 9);
    }

    /** The cheapest row is the longest, and its answers come from the last line to the first. */
    private static void p15LeastTheOtherWay() {
        BranchingTalks x = told("a>b9;a>c8;a>d7;a>e6;a>f1;f>e1;e>d1;d>c1;c>b1;a>a9!q;b>a9;");
        due("least(0, 1)", x.least(0, 1), 0);
        due("least(5, 1)", x.least(5, 1), 1);
        due("least(4, 1)", x.least(4, 1), 2);
        due("least(3, 1)", x.least(3, 1), 3);
        due("least(2, 1)", x.least(2, 1), 4);
        due("least(1, 1)", x.least(1, 1), 5);
        x = told("a>a9!q;a>b9?q!Q;b>a9!r;b>c9?r;");
        due("least(0, 1)", x.least(0, 1), 0);
        due("least(2, 1)", x.least(2, 1), 54);
    }

    private static void p16Row() {
        BranchingTalks x = told("a>b!q;a>b;b>c?Q;a>d;b>c?q;d>c;e>a;c>f?Q;");
        due("row(0, 0)", x.row(0, 0), NONE);
        due("row(2, 0)", x.row(2, 0), 0);
        due("row(2, 1)", x.row(2, 1), 4);
        due("row(2, 2)", x.row(2, 2), NONE);
        due("row(2, HIGH)", x.row(2, HIGH), NONE);
        due("row(5, 0)", x.row(5, 0), 1);
        due("row(5, 1)", x.row(5, 1), 2);
        due("row(5, 2)", x.row(5, 2), 7);
        due("row(5, 3)", x.row(5, 3), NONE);
        due("row(4, 0), not reached", x.row(4, 0), NONE);
        due("row(4, -1)", x.row(4, -1), OUTSIDE);
        due("row(2, -1)", x.row(2, -1), OUTSIDE);
        due("row(2, LOW)", x.row(2, LOW), OUTSIDE);
        due("row(6, 0)", x.row(6, 0), UNKNOWN);
        due("row(6, -1)", x.row(6, -1), UNKNOWN);
        due("row(16, 0)", x.row(16, 0), UNKNOWN);
    }

    private static void p17Needs() {
        BranchingTalks x = told("a>b!q;a>b!r;b>c?q;b>c?r;c>d?q;d>e!s;f>a;c>g?R;");
        int[] want = {0, 0, 0, 1, 5, NONE, 1, UNKNOWN};
        for (int line = 0; line < want.length; line++) due("needs(" + line + ")", x.needs(line), want[line]);
        due("needs(-1)", x.needs(-1), UNKNOWN);
        due("needs(16)", x.needs(16), UNKNOWN);
        x.begin(1);
        due("needs(3), begun with it", x.needs(3), 0);
        due("needs(4), begun with it", x.needs(4), 4);
        x.begin(4);
        due("needs(4), begun with the other", x.needs(4), 1);
    }

    private static void p18Must() {
        BranchingTalks x = told("c>d;a>b;a>b;b>c;d>e;e>b;d>f;d>f;g>a;");
        due("must(2, 0): line c is START", x.must(2, 0), NONE);
        due("must(5, 0)", x.must(5, 0), 0);
        due("must(5, 1)", x.must(5, 1), NONE);
        due("must(1, 0)", x.must(1, 0), 0);
        due("must(1, 1)", x.must(1, 1), 4);
        due("must(1, 2)", x.must(1, 2), 5);
        due("must(1, 3)", x.must(1, 3), NONE);
        due("must(1, HIGH)", x.must(1, HIGH), NONE);
        due("must(0, 0), not reached", x.must(0, 0), NONE);
        due("must(0, -1), not reached", x.must(0, -1), OUTSIDE);
        due("must(1, -1)", x.must(1, -1), OUTSIDE);
        due("must(7, 0)", x.must(7, 0), UNKNOWN);
        due("must(7, -1)", x.must(7, -1), UNKNOWN);
        due("must(16, 0)", x.must(16, 0), UNKNOWN);
        x.cut(6, 1);
        due("must(5, 1), the other way cut", x.must(5, 1), 7);
        x = told(times("a>a;", 31) + "a>b;");
        due("must(1, 0)", x.must(1, 0), 31);
    }

    private static void p19Loop() {
        BranchingTalks x = told("a>b;b>c;c>a;c>d!q;d>e;e>d;d>f!Q;f>f!r;g>g;f>h;");
        int[] want = {3, 3, 3, 2, 2, 1, NONE, NONE, UNKNOWN};
        for (int line = 0; line < want.length; line++) due("loop(" + line + ")", x.loop(line), want[line]);
        due("loop(-1)", x.loop(-1), UNKNOWN);
        due("loop(16)", x.loop(16), UNKNOWN);
        x.cut(5, 1);
        due("loop(3), cut", x.loop(3), NONE);
        x = told("a>a?Q!q;a>a?q!Q;");
        due("loop(0), by its marks", x.loop(0), 2);
        x = told("a>a;b>a;");
        due("loop(0), by the first answer", x.loop(0), 1);
        due("whole(4)", x.whole(4), 1);
        x = told("a>a!q;a.;");
        due("loop(0), an ending", x.loop(0), NONE);
        x = told("a>a?Q!q;a>b?q;b>a?R!r;");
        due("loop(0)", x.loop(0), NONE);
    }

    private static void p20Use() {
        BranchingTalks x = told("a>b!q;a>b;b>c?q;b>c?qQ;b>c;d>a;c.;c>a;b>c?q|Q;");
        int[] want = {2, 2, 1, 0, 2, 0, 0, 2, UNKNOWN};
        for (int a = 0; a < want.length; a++) due("use(" + a + ")", x.use(a), want[a]);
        due("use(-1)", x.use(-1), UNKNOWN);
        due("use(32)", x.use(32), UNKNOWN);
        x.cut(4, 1);
        due("use(4), cut", x.use(4), 0);
        x.begin(1);
        due("use(2), begun", x.use(2), 2);
    }

    private static void p21Mark() {
        BranchingTalks x = told("a>b?q|Q!r;b>c?r|rS!Rs;c>d?t;d>a?uU;a>a?vq!V;");
        int[][] want = {{2, 0, 0, 1}, {1, 2, 1, 1}, {1, 1, 1, 1}, {1, 0, 0, 0}, {1, 0, 0, 1}, {1, 1, 0, 1}};
        for (int mark = 0; mark < 6; mark++) {
            for (int what = 0; what < 4; what++) {
                due("mark(" + mark + ", " + what + ")", x.mark(mark, what), want[mark][what]);
            }
        }
        due("mark(0, 4)", x.mark(0, 4), OUTSIDE);
        due("mark(0, -1)", x.mark(0, -1), OUTSIDE);
        due("mark(6, 0)", x.mark(6, 0), UNKNOWN);
        due("mark(6, 4)", x.mark(6, 4), UNKNOWN);
        due("mark(-1, 0)", x.mark(-1, 0), UNKNOWN);
        x.begin(8);
        due("mark(3, 2), begun", x.mark(3, 2), 1);
        due("mark(3, 3), begun", x.mark(3, 3), 1);
        due("mark(4, 3), begun", x.mark(4, 3), 0);
        x = told("a>b;b>c?q;a.;");
        due("mark(0, 3), behind an ending", x.mark(0, 3), 1);
        due("mark(1, 3), not asked for", x.mark(1, 3), 0);
        x = told("a>b?q|r|s;");
        x.begin(4);
        due("mark(0, 0), the first alternative", x.mark(0, 0), 1);
        due("mark(1, 0), the second", x.mark(1, 0), 1);
        due("mark(0, 3)", x.mark(0, 3), 1);
        x.begin(0);
        due("mark(0, 3), at the beginning", x.mark(0, 3), 0);
        x.cut(0, 1);
        due("mark(0, 0), cut", x.mark(0, 0), 1);
        due("mark(0, 3), cut", x.mark(0, 3), 1);
        x = told("a>b?Q!q;b>a?q|r!Qr;a>c?Rs;");
        due("mark(1, 3)", x.mark(1, 3), 1);
        due("mark(2, 3)", x.mark(2, 3), 0);
    }

    private static void p22Whole() {
        BranchingTalks x = told(STORY);
        int[] want = {9, 32, 64, 74, 8, 2, 1, 3};
        for (int what = 0; what < want.length; what++) due("whole(" + what + ")", x.whole(what), want[what]);
        due("whole(8)", x.whole(8), OUTSIDE);
        due("whole(-1)", x.whole(-1), OUTSIDE);
        due("whole(HIGH)", x.whole(HIGH), OUTSIDE);
        x = told("c>d;a>d;c>e?q|Q;");
        int[] two = {3, 1, 24, 28, 0, 2, 0, 1};
        for (int what = 0; what < two.length; what++) due("whole(" + what + "), two", x.whole(what), two[what]);
        x = told("p.;");
        int[] alone = {1, 0, 0, 0, 0, 0, 1, 0};
        for (int what = 0; what < alone.length; what++) due("whole(" + what + "), alone", x.whole(what), alone[what]);
        x = told("a>b;b>a;");
        int[] lost = {2, 0, 0, 3, 3, 1, 0, 1};
        for (int what = 0; what < lost.length; what++) due("whole(" + what + "), lost", x.whole(what), lost[what]);
    }

    /** All 1024 states: each mark is laid and taken at one line, and all lines are in a ring. */
    private static void p22WholeOfAll() {
        StringBuilder s = new StringBuilder();
        for (char mark = 'q'; mark <= 'v'; mark++) {
            s.append("a>a!").append(mark).append(";a>a!").append((char) (mark - 32)).append(';');
        }
        for (char line = 'a'; line < 'p'; line++) s.append(line).append('>').append((char) (line + 1)).append(';');
        s.append("p>a;");
        BranchingTalks x = told(s.toString());
        due("whole(0)", x.whole(0), 1024);
        due("whole(1)", x.whole(1), 0);
        due("whole(2)", x.whole(2), 0);
        due("whole(3)", x.whole(3), 65535);
        due("whole(4)", x.whole(4), 65535);
        due("whole(5)", x.whole(5), 13);
        due("whole(6)", x.whole(6), 0);
        due("whole(7)", x.whole(7), 21);
        due("loop(0)", x.loop(0), 1);
        due("loop(15)", x.loop(15), 16);
        due("line(15, 0)", x.line(15, 0), 64);
        due("line(15, 1)", x.line(15, 1), 0);
        due("line(15, 2)", x.line(15, 2), 63);
        due("rows(15, 15)", x.rows(15, 15), 1);
        due("rows(15, 16)", x.rows(15, 16), 12);
        due("rows(15, 80)", x.rows(15, 80), FULL);
        due("cut(27, 1)", x.cut(27, 1), 27);
        due("whole(0), the ring cut", x.whole(0), 1024);
        due("whole(2), the ring cut", x.whole(2), 32768);
        due("whole(4), the ring cut", x.whole(4), 1);
        due("must(15, 14), the ring cut", x.must(15, 14), 26);
        due("undo()", x.undo(), 0);
        due("whole(4), laid again", x.whole(4), 65535);
    }

    private static void p23Rows() {
        BranchingTalks x = told("a>a;a>b;b>a!q;c>a;");
        long[] want = {1, 1, 2, 3, 5, 8, 13, 21};
        for (int n = 0; n < want.length; n++) due("rows(0, " + n + ")", x.rows(0, n), want[n]);
        due("rows(1, 0)", x.rows(1, 0), 0);
        due("rows(2, 5), not reached", x.rows(2, 5), 0);
        due("rows(0, 80)", x.rows(0, 80), 37889062373143906L);
        due("rows(0, 81)", x.rows(0, 81), OUTSIDE);
        due("rows(0, -1)", x.rows(0, -1), OUTSIDE);
        due("rows(3, 0)", x.rows(3, 0), UNKNOWN);
        due("rows(3, 81)", x.rows(3, 81), UNKNOWN);
        due("rows(16, 0)", x.rows(16, 0), UNKNOWN);
        due("rows(-1, 0)", x.rows(-1, 0), UNKNOWN);
        x = told("a>a;a>a;");
        due("rows(0, 62)", x.rows(0, 62), 1L << 62);
        due("rows(0, 63)", x.rows(0, 63), FULL);
        x = told("a>a;a>a;b>a;");
        due("rows(1, 62), nowhere", x.rows(1, 62), 0);
        due("rows(1, 63), another state is full", x.rows(1, 63), FULL);
    }

    /** Full by the sum alone: two states of one line with 2 to the 62 rows each. */
    private static void p23RowsOfALine() {
        BranchingTalks x = told("a>b!q;a>b;b>b;b>b;");
        due("rows(1, 62)", x.rows(1, 62), 1L << 62);
        due("rows(1, 63)", x.rows(1, 63), FULL);
        due("rows(0, 63), no state is full", x.rows(0, 63), 0);
        due("rows(0, 64), one is", x.rows(0, 64), FULL);
        x = told("a>a;a>a;a>b;b>b;");
        due("rows(1, 62): all but one of them", x.rows(1, 62), (1L << 62) - 1);
        due("rows(1, 63), a is full", x.rows(1, 63), FULL);
        x = told("a>b;b>b;b>b;b>c;");
        due("rows(2, 63)", x.rows(2, 63), 1L << 61);
        due("rows(2, 64), b is full", x.rows(2, 64), FULL);
    }

    /** Just the greatest number: behind n answers b has 2 to the n, less 1. */
    private static void p23RowsGreatest() {
        BranchingTalks x = told("a>b;b>b;b>b;a>c;c>b;c>c;");
        for (int n = 1; n <= 62; n++) due("rows(1, " + n + ")", x.rows(1, n), (1L << n) - 1);
        due("rows(1, 63), just the greatest", x.rows(1, 63), Long.MAX_VALUE);
        due("rows(1, 64), more", x.rows(1, 64), FULL);
    }

    public static void main(String[] args) {
        promise = "promise 1"; p1NewObject();
        promise = "promise 2"; p2Write();
        promise = "promise 3"; p3TalkRight(); p3TalkMisplaced(); p3TalkOtherFaults(); p3TalkInPlace();
        p3TalkBehindOthers();
        promise = "promise 4"; p4Fault();
        promise = "promise 5"; p5Begin();
        promise = "promise 6"; p6Take(); p6Guards();
        promise = "promise 7"; p7Back();
        promise = "promise 8"; p8Cut();
        promise = "promise 9"; p9Cost();
        promise = "promise 10"; p10Undo(); p10UndoOfMany();
        promise = "promise 11"; p11Answer();
        promise = "promise 12"; p12Count();
        promise = "promise 13"; p13Step();
        promise = "promise 14"; p14Line(); p14LineAnew();
        promise = "promise 15"; p15Least(); p15LeastTheOtherWay();
        promise = "promise 16"; p16Row();
        promise = "promise 17"; p17Needs();
        promise = "promise 18"; p18Must();
        promise = "promise 19"; p19Loop();
        promise = "promise 20"; p20Use();
        promise = "promise 21"; p21Mark();
        promise = "promise 22"; p22Whole(); p22WholeOfAll();
        promise = "promise 23"; p23Rows(); p23RowsOfALine(); p23RowsGreatest();
        System.out.println(checks + " answers looked at, " + wrong + " not as due");
        if (wrong != 0) System.exit(1);
    }
}
