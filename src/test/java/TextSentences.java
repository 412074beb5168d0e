/**
 * The document's sentences on texts and refusals: the head of "Terms", its part 1, promises 1 to 4.
 * Each sentence that names a boundary case has its test.
 */
public final class TextSentences extends Sentences {
    private static final String HEAD = "Terms", ONE = "Terms 1";
    private static final String LINES = "abcdefghijklmnop", FIGURES = "0123456789";
    private static final String SMALL = "qrstuv", GREAT = "QRSTUV", MARKS = SMALL + GREAT;
    /** Every call but write, talk, fault and count(10), with numbers that are as told. */
    private static final String[] ASKING_FOR_A_TALK = {
        "begin(0)", "take(0)", "back(1)", "cut(0,1)", "cut(0,0)", "cost(0,0)", "undo()", "answer(0,0)", "answer(0,10)",
        "count(0)", "count(9)", "step(0)", "line(0,0)", "least(0,0)", "row(0,0)", "needs(0)", "must(0,0)", "loop(0)",
        "use(0)", "mark(0,0)", "whole(0)", "rows(0,0)"};
    private static final String STORY = "a>b3?q|R!rS;a>a!q;b>c?q;c.;b>d;d>d;";
    private static final String DEEDS = "begin(4) take(1) take(0) cut(3,1) cost(0,7) cost(1,0)";

    // ---- Terms, its head

    private void numbers() {
        leaves(HEAD, "Words in capitals are told where they come first. All numbers are whole.");
        says(HEAD, "What has a number has it from 0 on.");
        tells("a>p5?q|R|v!s;", "begin(1) line(0,0)=1 line(-1,0)=UNKNOWN answer(0,0)=0 answer(-1,0)=UNKNOWN mark(0,0)=1"
                + " mark(-1,0)=UNKNOWN answer(0,10)=1 answer(0,9)=OUTSIDE row(15,0)=0 row(15,-1)=OUTSIDE must(15,0)=0"
                + " must(15,-1)=OUTSIDE take(0)=15 step(0)=0 step(-1)=OUTSIDE");
        says(HEAD, "NONE is -1.");
        due("NONE", BranchingTalks.NONE, -1);
        tells("a>b;", "step(0)=-1 row(0,0)=-1 loop(0)=-1");
    }

    private void orderOfRefusals() {
        says(HEAD, "REFUSALS, of several the first in this order:");
        // UNKNOWN ahead of OUTSIDE and of NOT, without a talk
        expect(new Tried(), "begin(-1)=UNKNOWN begin(64)=UNKNOWN back(0)=UNKNOWN back(61)=UNKNOWN cut(0,2)=UNKNOWN"
                + " cut(0,-1)=UNKNOWN cost(0,10)=UNKNOWN cost(0,-1)=UNKNOWN undo()=UNKNOWN answer(0,9)=UNKNOWN"
                + " answer(0,-1)=UNKNOWN count(11)=UNKNOWN count(-1)=UNKNOWN step(-1)=UNKNOWN line(0,6)=UNKNOWN"
                + " least(0,2)=UNKNOWN row(0,-1)=UNKNOWN must(0,-1)=UNKNOWN mark(0,4)=UNKNOWN whole(8)=UNKNOWN"
                + " whole(-1)=UNKNOWN rows(0,81)=UNKNOWN rows(0,-1)=UNKNOWN");
        // UNKNOWN ahead of OUTSIDE, with one
        tells("a>b;", "cut(1,2)=UNKNOWN cut(-1,-1)=UNKNOWN cost(1,10)=UNKNOWN cost(-1,-1)=UNKNOWN answer(1,9)=UNKNOWN"
                + " answer(1,10)=UNKNOWN answer(-1,-1)=UNKNOWN line(2,6)=UNKNOWN line(16,6)=UNKNOWN line(-1,-1)=UNKNOWN"
                + " least(2,2)=UNKNOWN least(16,-1)=UNKNOWN row(2,-1)=UNKNOWN row(16,-1)=UNKNOWN must(2,-1)=UNKNOWN"
                + " must(16,-1)=UNKNOWN mark(6,4)=UNKNOWN mark(-1,-1)=UNKNOWN rows(2,81)=UNKNOWN rows(16,-1)=UNKNOWN");
        // OUTSIDE ahead of NOT
        tells("a>b;", "back(0)=OUTSIDE back(61)=OUTSIDE back(1)=NOT back(60)=NOT cut(0,2)=OUTSIDE cut(0,-1)=OUTSIDE"
                + " cut(0,0)=NOT");
        // UNKNOWN, then NOT, ahead of FULL
        tells("a>a;b>a;", "60*take(0)=0 take(2)=UNKNOWN take(-1)=UNKNOWN take(1)=NOT take(0)=FULL");
        // OUTSIDE ahead of FULL
        expect(new Tried(), "200*write(97) write(256)=OUTSIDE write(-1)=OUTSIDE write(97)=FULL");
        // UNKNOWN, then OUTSIDE, ahead of FULL
        tells("a>a;a>a;", "rows(1,80)=UNKNOWN rows(16,80)=UNKNOWN rows(0,81)=OUTSIDE rows(0,-1)=OUTSIDE rows(0,80)=FULL");
        // any of them ahead of an answer, NONE among these
        tells("a>a;b>a;", "least(1,2)=OUTSIDE least(1,0)=NONE row(1,-1)=OUTSIDE row(1,0)=NONE must(1,-1)=OUTSIDE"
                + " must(1,0)=NONE step(-1)=OUTSIDE step(0)=NONE");
    }

    private void kindsOfRefusal() {
        says(HEAD, "UNKNOWN -1000001 (no TALK; no such LINE, ANSWER, MARK),");
        due("UNKNOWN", BranchingTalks.UNKNOWN, -1000001);
        for (String call : ASKING_FOR_A_TALK) {
            expect(new Tried(), call + "=-1000001");
            // a text with a fault tells no talk
            expect(new Tried(), "write(97) write(62) write(97) talk()=-103 " + call + "=-1000001");
        }
        for (String number : new String[] {"-1", "1", "2", "14", "16", "17", "32", "LOW", "HIGH"}) {
            tells("a>a;p.;", ("line(#,0)=UNKNOWN least(#,0)=UNKNOWN row(#,0)=UNKNOWN needs(#)=UNKNOWN must(#,0)=UNKNOWN"
                    + " loop(#)=UNKNOWN rows(#,0)=UNKNOWN").replace("#", number));
        }
        tells("a>a;p.;", "line(0,0)=1 line(15,0)=0 needs(15)=NONE loop(15)=NONE rows(15,0)=0");
        for (String number : new String[] {"-1", "2", "31", "32", "33", "LOW", "HIGH"}) {
            tells("a>a;a>b;", "take(#)=UNKNOWN cut(#,1)=UNKNOWN cost(#,1)=UNKNOWN answer(#,0)=UNKNOWN use(#)=UNKNOWN"
                    .replace("#", number));
        }
        tells("a>a;a>b;", "take(1)=1 cut(1,1)=1 cost(1,1)=0 answer(1,0)=0 use(0)=2");
        tells("b.;", "take(0)=UNKNOWN cut(0,1)=UNKNOWN cost(0,0)=UNKNOWN answer(0,0)=UNKNOWN use(0)=UNKNOWN");
        tells("a>a;", "mark(-1,0)=UNKNOWN mark(6,0)=UNKNOWN mark(LOW,0)=UNKNOWN mark(HIGH,0)=UNKNOWN mark(0,0)=0"
                + " mark(5,0)=0");
        says(HEAD, "OUTSIDE -1000002 (another number is not as told),");
        due("OUTSIDE", BranchingTalks.OUTSIDE, -1000002);
        tells("a>a;", "begin(64)=-1000002 whole(8)=-1000002 rows(0,81)=-1000002");
        says(HEAD, "NOT -1000003 (as told),");
        due("NOT", BranchingTalks.NOT, -1000003);
        tells("a>a;", "back(1)=-1000003 undo()=-1000003 cut(0,0)=-1000003");
        says(HEAD, "FULL -1000004 (as told).");
        due("FULL", BranchingTalks.FULL, -1000004);
        expect(new Tried(), "200*write(0) write(0)=-1000004");
        tells("a>a;a>a;", "rows(0,63)=-1000004");
    }

    private void refusedChangesNothing() {
        says(HEAD, "What is refused changes nothing.");
        String asking = "take(5)=UNKNOWN cut(5,1)=UNKNOWN cost(5,1)=UNKNOWN answer(5,0)=UNKNOWN answer(0,9)=OUTSIDE"
                + " count(11)=OUTSIDE step(-1)=OUTSIDE line(4,0)=UNKNOWN line(0,6)=OUTSIDE least(4,0)=UNKNOWN"
                + " least(0,2)=OUTSIDE row(4,0)=UNKNOWN row(0,-1)=OUTSIDE needs(4)=UNKNOWN must(4,0)=UNKNOWN"
                + " must(0,-1)=OUTSIDE loop(4)=UNKNOWN use(5)=UNKNOWN mark(6,0)=UNKNOWN mark(0,4)=OUTSIDE"
                + " whole(8)=OUTSIDE rows(4,0)=UNKNOWN rows(0,81)=OUTSIDE";
        refuses(STORY, DEEDS + " write(97) write(46)", asking);
        refuses("", "write(97) write(46) write(59)", "begin(0)=UNKNOWN begin(64)=UNKNOWN take(0)=UNKNOWN back(1)=UNKNOWN"
                + " cut(0,1)=UNKNOWN cost(0,1)=UNKNOWN undo()=UNKNOWN count(0)=UNKNOWN rows(0,0)=UNKNOWN write(256)=OUTSIDE"
                + " write(-1)=OUTSIDE");
    }

    // ---- Terms, part 1

    private void lettersOfLines() {
        says(ONE, "LINES 0 to 15 have the letters a to p;");
        for (int line = 0; line < 16; line++) {
            tells(LINES.charAt(line) + ">" + LINES.charAt(15 - line) + ";",
                    "answer(0,0)=" + line + " answer(0,1)=" + (15 - line) + " count(5)=" + line);
            tells(LINES.charAt(line) + ".;", "count(5)=" + line + " count(0)=" + line);
        }
        reads("`>a;", -100, 1);
        reads("q>a;", -100, 1);
        reads("A>a;", -100, 1);
        reads("P>a;", -100, 1);
        reads("a>`;", -102, 1);
        reads("a>q;", -102, 1);
        reads("a>A;", -102, 1);
        reads("a>P;", -102, 1);
        reads("`.;", -100, 1);
        reads("q.;", -100, 1);
    }

    private void lettersOfMarks() {
        says(ONE, "MARKS 0 to 5 the letters q to v;");
        for (int mark = 0; mark < 6; mark++) {
            tells("a>b?" + SMALL.charAt(mark) + "!" + SMALL.charAt(mark) + ";",
                    "answer(0,10)=" + (1 << mark) + " answer(0,4)=" + (1 << mark) + " mark(" + mark + ",0)=1 mark(" + mark
                    + ",1)=1");
        }
        reads("a>b?p;", -104, 1);
        reads("a>b?w;", -104, 1);
        reads("a>b?qp;", -105, 1);
        reads("a>b?qw;", -105, 1);
        reads("a>b!p;", -104, 1);
        reads("a>b!w;", -104, 1);
        reads("a>b!vp;", -105, 1);
        reads("a>b!vw;", -105, 1);
        says(ONE, "SETS of both are bits.");
        tells("a>p!q;p.;", "count(6)=32769 count(7)=32768 answer(0,4)=1 whole(1)=0 take(0)=15 count(1)=1");
        tells("a>b!v;", "answer(0,4)=32 line(1,1)=32 begin(31)=0 take(0)=1 count(1)=63");
        tells("a>b!QRSTUV;", "answer(0,5)=63 answer(0,4)=0");
        tells("a.;b.;c.;d.;e.;f.;g.;h.;i.;j.;k.;l.;m.;n.;o.;p.;", "count(6)=65535 count(7)=65535 whole(1)=65534");
    }

    private void partsOfAnAnswer() {
        says(ONE, "An ANSWER leads FROM a LINE TO one (the same one, too),");
        tells("a>a;", "answer(0,0)=0 answer(0,1)=0 take(0)=0 count(6)=1 loop(0)=1");
        tells("p>p;", "answer(0,0)=15 answer(0,1)=15 take(0)=15 count(6)=32768");
        tells("a>b;", "answer(0,0)=0 answer(0,1)=1 take(0)=1 count(6)=3");
        says(ONE, "has a COST (0 to 9),");
        for (int cost = 0; cost <= 9; cost++) {
            tells("a>b" + cost + ";", "answer(0,2)=" + cost + " least(1,1)=" + cost + " take(0)=1 count(4)=" + cost);
        }
        reads("a>b/;", -103, 1);
        reads("a>b:;", -103, 1);
        reads("a>b-1;", -103, 1);
        reads("a>b10;", -104, 1);
        says(ONE, "a GUARD of 0 to 3 ALTERNATIVES, each of MARKS that it WANTS and MARKS that it BARS,");
        tells("a>b;", "answer(0,3)=0 answer(0,10)=OUTSIDE answer(0,11)=OUTSIDE");
        tells("a>b?q;", "answer(0,3)=1 answer(0,10)=1 answer(0,11)=0 answer(0,12)=OUTSIDE answer(0,13)=OUTSIDE");
        tells("a>b?q|R;", "answer(0,3)=2 answer(0,12)=0 answer(0,13)=2 answer(0,14)=OUTSIDE answer(0,15)=OUTSIDE");
        tells("a>b?q|R|qrstuvQRSTUV;", "answer(0,3)=3 answer(0,14)=63 answer(0,15)=63 answer(0,16)=OUTSIDE"
                + " answer(0,17)=OUTSIDE");
        reads("a>b?q|R|s|t;", -109, 2);
        says(ONE, "and an EFFECT: MARKS that it LAYS, MARKS that it TAKES.");
        tells("a>b;", "answer(0,4)=0 answer(0,5)=0 mark(0,1)=0 begin(21) take(0)=1 count(1)=21");
        tells("a>b!qrstuv;", "answer(0,4)=63 answer(0,5)=0 take(0)=1 count(1)=63");
        tells("a>b!QRSTUV;", "answer(0,4)=0 answer(0,5)=63 begin(63) take(0)=1 count(1)=0");
        tells("a>b!qRsTuV;", "answer(0,4)=21 answer(0,5)=42 begin(42) take(0)=1 count(1)=21");
    }

    private void lengthOfTheText() {
        says(ONE, "THE TEXT is a row of bytes, 200 at most.");
        expect(new Tried(), "199*write(32) write(97)=200 write(97)=FULL count(10)=200 talk()=-300 count(10)=0");
        reads(times(" ", 197) + "a.;", 0, 0);
        // what came when it was full is not in it
        reads(times(" ", 198) + "a.;", -300, 1);
        reads(times("a>b;", 31) + times(" ", 72) + "c>b;", 32, 0);
        reads(times("a>b;", 31) + times(" ", 73) + "c>b;", -300, 1);
        reads(times("a.;", 66) + "b.", -300, 1);
        reads(times("a>b9;", 32) + times(" ", 40), 32, 0);
    }

    private void tokens() {
        says(ONE, "TOKENS: each byte by itself; blanks (32) between are nothing.");
        reads("a > b 9 ? q R | s ! q R ;", 1, 0);
        reads("   a.;   b  >  a  ;   ", 1, 0);
        for (int odd : new int[] {0, 9, 10, 11, 13, 31, 33, 127, 160, 255}) {
            reads((char) odd + "a>b;", -100, 1);
            reads("a" + (char) odd + ">b;", -101, 1);
            reads("a>" + (char) odd + "b;", -102, 1);
            reads("a>b;" + (char) odd, -104, 1);
        }
        // blanks have places, too
        reads("  a  x", -105, 1);
        tells(" b > a 7 ? q r ; ", "answer(0,2)=7 answer(0,10)=3 count(5)=1");
        says(ONE, "TEXT: CLAUSE { CLAUSE }.");
        reads("", -100, 1);
        reads(" ", -101, 1);
        reads(times(" ", 200), -300, 1);
        reads(";", -100, 1);
        reads("a.;", 0, 0);
        reads("a>b;", 1, 0);
        reads("a.;a>b;", 1, 0);
        reads("a>b;;", -104, 1);
        reads(times("a.;", 66), 0, 0);
        reads("a>b,c>d;", -103, 1);
    }

    /** Of all bytes just these may come behind the beginning of a text; others are faults of the kind 1. */
    private void takesOnly(String ahead, String these, String others, int faultOfOthers) {
        for (int letter = 0; letter < 256; letter++) {
            if (letter == ' ') continue;
            Tried t = new Tried();
            put(t, ahead);
            call(t, "write", letter, 0);
            long answer = call(t, "talk", 0, 0), fault = call(t, "fault", 0, 0);
            boolean faultHere = answer == -100 - ahead.length();
            String what = "byte " + letter + " behind \"" + ahead + "\"";
            boolean other = others.indexOf(letter) >= 0;
            due(what, faultHere ? 1 : 0, these.indexOf(letter) >= 0 ? 0 : 1);
            if (faultHere) due("fault of " + what, fault, other ? faultOfOthers : 1);
        }
    }

    private void clauses() {
        says(ONE, "CLAUSE: LINE > LINE { COST } { ? ALTERNATIVE { | ALTERNATIVE } } { ! MARK { MARK } } ;");
        for (String cost : new String[] {"", "4"}) {
            for (String guard : new String[] {"", "?q", "?Q", "?qR|s", "?q|R|st"}) {
                for (String effect : new String[] {"", "!q", "!Q", "!qRstUV"}) {
                    String clause = "a>b" + cost + guard + effect;
                    reads(clause + ";", 1, 0);
                    reads(clause, -100 - clause.length(), 1);
                    reads(clause + ";" + clause + ";", 2, 0);
                }
            }
        }
        for (String ahead : new String[] {"", "a.;", "a>b;", "a>b?q!q;"}) {
            takesOnly(ahead, LINES, "", 1);
            takesOnly(ahead + "a", ">.", "", 1);
            takesOnly(ahead + "a>", LINES, "", 1);
            takesOnly(ahead + "a>b", FIGURES + "?!;", "", 1);
            takesOnly(ahead + "a>b?", MARKS, "", 1);
            takesOnly(ahead + "a>b?q", MARKS + "|!;", "", 1);
            takesOnly(ahead + "a>b!", MARKS, "", 1);
            takesOnly(ahead + "a>b!v", "qrstuQRSTU;", "vV", 4);
        }
        says(ONE, "(in this order; what begins with ? and with ! at most once;");
        reads("a>b?q5;", -105, 1);
        reads("a>b!q5;", -105, 1);
        reads("a>b!q?r;", -105, 1);
        reads("a>b?q!r?s;", -107, 1);
        reads("a>b?q?r;", -105, 1);
        reads("a>b?q|r?s;", -107, 1);
        reads("a>b!q!r;", -105, 1);
        reads("a>b?q!r!s;", -107, 1);
        reads("a5>b;", -101, 1);
        reads("a?q>b;", -101, 1);
        reads("a>5b;", -102, 1);
        reads("a>b|q;", -103, 1);
        reads("a>b!q|r;", -105, 1);
        takesOnly("a>b5?q!r", "qstuvQSTUV;", "rR", 4);
        takesOnly("a>b?q!r", "qstuvQSTUV;", "rR", 4);
        says(ONE, "COST: a figure, at most once, 0 if not told;");
        tells("a>b9;a>b;a>b0;", "answer(0,2)=9 answer(1,2)=0 answer(2,2)=0");
        reads("a>b55;", -104, 1);
        reads("a>b5 5;", -105, 1);
        reads("a>b00;", -104, 1);
        takesOnly("a>b5", "?!;", "", 1);
        says(ONE, "ALTERNATIVE: MARK { MARK })");
        reads("a>b?;", -104, 1);
        reads("a>b?!q;", -104, 1);
        reads("a>b?|q;", -104, 1);
        reads("a>b?q|;", -106, 1);
        reads("a>b?q||r;", -106, 1);
        reads("a>b?q|!r;", -106, 1);
        reads("a>b!;", -104, 1);
        reads("a>b?q!;", -106, 1);
        reads("a>b?" + times("q", 195) + ";", 1, 0);
        takesOnly("a>b?q|", MARKS, "", 1);
        takesOnly("a>b?q|rS", MARKS + "|!;", "", 1);
    }

    private void endingsAndLetters() {
        says(ONE, "or LINE . ; (that LINE is an ENDING).");
        tells("a.;", "count(7)=1 line(0,5)=1 count(8)=0");
        tells("a>p;p.;", "count(7)=32768 line(0,5)=0 line(15,5)=1");
        tells("p.;a>p;p.;", "count(7)=32768 count(8)=1 answer(0,0)=0");
        reads("a.", -102, 1);
        reads("a..;", -102, 1);
        reads("a>b.;", -103, 1);
        reads(".;", -100, 1);
        takesOnly("a.", ";", "", 1);
        takesOnly("a>b;p.", ";", "", 1);
        says(ONE, "In an ALTERNATIVE a MARK's letter is one that it WANTS, its great letter (Q to V) one that it BARS;");
        for (int mark = 0; mark < 6; mark++) {
            tells("a>b?" + SMALL.charAt(mark) + ";", "answer(0,10)=" + (1 << mark) + " answer(0,11)=0");
            tells("a>b?" + GREAT.charAt(mark) + ";", "answer(0,10)=0 answer(0,11)=" + (1 << mark));
        }
        reads("a>b?P;", -104, 1);
        reads("a>b?W;", -104, 1);
        tells("a>b?qVrQ|s|U;", "answer(0,10)=3 answer(0,11)=33 answer(0,12)=4 answer(0,13)=0 answer(0,14)=0"
                + " answer(0,15)=16");
        says(ONE, "in an EFFECT a letter LAYS, a great letter TAKES.");
        for (int mark = 0; mark < 6; mark++) {
            tells("a>b!" + SMALL.charAt(mark) + ";", "answer(0,4)=" + (1 << mark) + " answer(0,5)=0");
            tells("a>b!" + GREAT.charAt(mark) + ";", "answer(0,4)=0 answer(0,5)=" + (1 << mark));
        }
        reads("a>b!P;", -104, 1);
        reads("a>b!W;", -104, 1);
    }

    private void numbersOfAnswers() {
        says(ONE, "ANSWERS have numbers as they come (32 at most).");
        tells("c>d;a.;b>a;d>d;", "answer(0,0)=2 answer(1,0)=1 answer(2,0)=3 answer(3,0)=UNKNOWN count(8)=3");
        tells(times("a>b;", 31) + "p>o9!v;", "count(8)=32 answer(31,0)=15 answer(31,1)=14 answer(31,2)=9 answer(31,4)=32"
                + " answer(30,0)=0 answer(32,0)=UNKNOWN");
        reads(times("a>b;", 33), -229, 3);
        reads(times("a>b;", 32) + times("a.;", 24), 32, 0);
        says(ONE, "LINES that are named are THERE; the first that is named is START.");
        tells("c.;a>b;", "count(6)=7 count(5)=2 count(0)=2");
        tells("p>a;", "count(6)=32769 count(5)=15 line(0,0)=1 line(1,0)=UNKNOWN line(14,0)=UNKNOWN");
        tells("b>a;a>c;", "count(6)=7 count(5)=1");
        tells("a>b;c>d;e>f;g>h;i>j;k>l;m>n;o>p;", "count(6)=65535 count(5)=0");
        tells("h.;", "count(6)=128 count(5)=7");
    }

    // ---- faults

    private void firstFault() {
        says(ONE, "FAULTS, the first TOKEN that has one, of one TOKEN the least:");
        reads("a>b!qq;a>b?q|r|s|t;", -105, 4);
        reads("a>b?q|r|s|t!qq;", -109, 2);
        reads("x>b!qq;", -100, 1);
        reads("a>b!qqx", -105, 4);
        reads("a>b!xqq", -104, 1);
        // the bar is one of a fourth alternative only where a bar can stand
        reads("a>b?q|r|s||t;", -109, 2);
        reads("a>b?q|r||s|t;", -108, 1);
        reads("a>b?q|r|s!q|t;", -111, 1);
        // so with the arrow of a thirty-third answer
        reads(times("a>b;", 32) + ">", -228, 1);
        reads(times("a>b;", 32) + "a.>", -230, 1);
        reads(times("a>b;", 31) + "a>b>c;", -227, 1);
        reads(times("a>b;", 31) + "a>>", -226, 1);
        says(ONE, "1 it cannot stand there (the end, too, if it comes too soon; its place is how many bytes there are);");
        String whole = "a>b5?qR|s!qR;";
        for (int length = 0; length < whole.length(); length++) {
            reads(whole.substring(0, length), -100 - length, 1);
            reads(whole.substring(0, length) + "   ", -103 - length, 1);
            reads(whole.substring(0, length) + "~", -100 - length, 1);
        }
        reads(whole, 1, 0);
        reads(whole + "  ", 1, 0);
        reads(whole + "a", -114, 1);
        reads(whole + " a ", -116, 1);
        reads("a", -101, 1);
        reads("a.", -102, 1);
        reads(times(" ", 199) + "a", -300, 1);
        reads(times(" ", 199) + ";", -299, 1);
    }

    private void otherFaults() {
        says(ONE, "2 a fourth ALTERNATIVE (its |);");
        reads("a>b?q|r|s;", 1, 0);
        reads("a>b?q|r|s|", -109, 2);
        reads("a>b?q|r|s|t;", -109, 2);
        reads("a>b?q|r|s |t;", -110, 2);
        reads("a>b?qQrR|sS|t|u|v;", -113, 2);
        reads("a>b?q|r|s;b>c?t|u|v;", 2, 0);
        reads("a>b?q|r|s;b>c?t|u|v|q;", -119, 2);
        takesOnly("a>b?q|r|s", MARKS + "!;", "|", 2);
        says(ONE, "3 a thirty-third ANSWER (its >);");
        reads(times("a>b;", 32), 32, 0);
        reads(times("a>b;", 32) + "c", -229, 1);
        reads(times("a>b;", 32) + "c>", -229, 3);
        reads(times("a>b;", 32) + "c >d;", -230, 3);
        reads(times("a>b;", 32) + "c.;", 32, 0);
        reads(times("a>b;", 32) + "c.;c>d;", -232, 3);
        takesOnly(times("a>b;", 32) + "a", ".", ">", 3);
        says(ONE, "4 in an EFFECT a MARK that was named in it ahead, in either way (an ALTERNATIVE may do so).");
        for (int first = 0; first < 12; first++) {
            for (int second = 0; second < 12; second++) {
                boolean again = first % 6 == second % 6;
                String two = "" + MARKS.charAt(first) + MARKS.charAt(second);
                reads("a>b!" + two + ";", again ? -105 : 1, again ? 4 : 0);
                reads("a>b?" + two + ";", 1, 0);
                reads("a>b?" + two + "!q;", 1, 0);
            }
        }
        reads("a>b!qrstuvQ;", -110, 4);
        reads("a>b!QRSTUVv;", -110, 4);
        reads("a>b!q r  q;", -109, 4);
        // in the one effect alone: not in the guard ahead, nor in another answer's effect
        reads("a>b?q!q;", 1, 0);
        reads("a>b?Q|q!Q;", 1, 0);
        reads("a>b!q;a>b!q;a>b!Q;", 3, 0);
        tells("a>b?qQqQ;", "answer(0,10)=1 answer(0,11)=1 answer(0,8)=1");
    }

    private void behindReading() {
        says(ONE, "THE TEXT is empty behind reading it in any case.");
        for (String text : new String[] {"a>b;", "a.;", "a>b", "x", "a>b?q|r|s|t;", times("a>b;", 33), "a>b!qq;", ""}) {
            Tried t = new Tried();
            put(t, text);
            expect(t, "talk() count(10)=0 write(97)=1 write(46)=2 write(59)=3 talk()=0 count(10)=0");
        }
        // also when it was full
        expect(new Tried(), "200*write(97) write(97)=FULL talk()=-101 count(10)=0 write(97)=1");
        says(ONE, "A TALK that is read comes in place of the one before;");
        Tried t = told(STORY, DEEDS);
        put(t, "n>o;");
        expect(t, "talk()=1 count(5)=13 count(6)=24576 count(7)=0 count(8)=1 answer(0,2)=0 answer(0,3)=0 answer(0,4)=0"
                + " answer(0,5)=0 answer(0,10)=OUTSIDE answer(1,0)=UNKNOWN line(0,0)=UNKNOWN whole(0)=2 mark(0,0)=0 use(0)=2");
        String plain = "d>e?q|R;e>d!r;a>d2?S;d>a;a.;";
        for (String before : new String[] {STORY, times("n>o9?qrSQ|sRTU|uvQ!qrsTUV;", 7), times("p>p;", 32), "d.;e.;"}) {
            t = told(before, "begin(63) take(0) cut(0,1) cut(1,1) cut(3,1) whole(4) loop(0) least(3,1) rows(3,7)");
            put(t, plain);
            expect(t, "talk()=4");
            same("talk() behind " + before, traces(t), traces(told(plain, "")));
            // behind two talks, and behind one with a fault
            t = told(before, "cut(0,1)");
            put(t, before.length() <= 100 ? before : before.substring(0, 78));
            expect(t, "talk() cut(0,1) cut(1,1)");
            put(t, plain);
            expect(t, "talk()=4");
            same("talk() behind two of " + before, traces(t), traces(told(plain, "")));
            t = new Tried();
            put(t, before + "x");
            expect(t, "talk() fault()=1");
            put(t, plain);
            expect(t, "talk()=4 fault()=0");
            same("talk() behind a fault", traces(t), traces(told(plain, "")));
        }
        says(ONE, "it is BEGUN, without MARKS;");
        t = told("b>a!q;a>b;", "begin(5) take(0) take(1) count(2)=2 count(1)=5");
        put(t, "b>a!q;a>b;");
        expect(t, "talk()=2 count(0)=1 count(1)=0 count(2)=0 step(0)=NONE count(4)=0 line(1,1)=0 whole(0)=3 back(1)=NOT");
        says(ONE, "nothing can be undone.");
        t = told("a>b;", "cut(0,1) cost(0,1) cost(0,2) count(9)=3");
        put(t, "a>b5;");
        expect(t, "talk()=1 count(9)=0 undo()=NOT answer(0,2)=5 answer(0,6)=0");
        t = told("a>b;", "12*cost(0,1) count(9)=12");
        put(t, "a>b5;");
        expect(t, "talk()=1 count(9)=0 undo()=NOT cost(0,6)=5 undo()=0 answer(0,2)=5 undo()=NOT");
    }

    // ---- promises 1 to 4

    private void promise1() {
        says("Promise 1", "No TALK.");
        expect(new Tried(), "count(10)=0 fault()=0 count(8)=UNKNOWN begin(0)=UNKNOWN take(0)=UNKNOWN undo()=UNKNOWN"
                + " whole(0)=UNKNOWN write(97)=1");
    }

    private void promise2() {
        says("Promise 2", "A byte (0 to 255) comes behind THE TEXT: how many it has.");
        expect(new Tried(), "write(0)=1 write(255)=2 count(10)=2 write(1)=3 write(254)=4");
        Tried t = new Tried();
        for (int n = 1; n <= 200; n++) due("write(" + n + ")", call(t, "write", n, 0), n);
        // behind, not ahead: the first byte is the first token
        expect(new Tried(), "write(97)=1 write(46)=2 write(59)=3 talk()=0 count(5)=0");
        // the same with a talk
        tells("a.;", "write(0)=1 write(255)=2 count(10)=2");
        says("Promise 2", "OUTSIDE; FULL.");
        refuses("", "", "write(-1)=OUTSIDE write(256)=OUTSIDE write(LOW)=OUTSIDE write(HIGH)=OUTSIDE write(353)=OUTSIDE"
                + " write(-159)=OUTSIDE");
        refuses("a>a;", "write(97)", "write(-1)=OUTSIDE write(256)=OUTSIDE");
        expect(new Tried(), "199*write(97) write(97)=200 write(97)=FULL write(97)=FULL write(0)=FULL write(255)=FULL"
                + " write(256)=OUTSIDE write(-1)=OUTSIDE count(10)=200");
        refuses("", "99*write(32) write(97) write(46) write(59) 98*write(32)", "write(97)=FULL write(32)=FULL"
                + " write(256)=OUTSIDE");
        refuses("b>b;", "197*write(32) write(97) write(46) write(59)", "write(59)=FULL write(-1)=OUTSIDE");
    }

    private void promise3() {
        says("Promise 3", "THE TEXT is read: how many ANSWERS;");
        reads("a.;", 0, 0);
        reads("a>b;", 1, 0);
        reads(times("a>b;", 31), 31, 0);
        reads(times("a>b;", 32), 32, 0);
        says("Promise 3", "-100 less the place of the FAULT's TOKEN: all stays.");
        reads("x", -100, 1);
        reads("ax", -101, 1);
        reads(times(" ", 199) + "x", -299, 1);
        reads(times(" ", 200), -300, 1);
        reads(times("a>b;", 32) + times(" ", 70) + "a>", -299, 3);
        for (String text : new String[] {"a>b", "c>d!qq;", "c>d?q|r|s|t;", times("c>d9;", 33), "", "x", "b.;c.;c>b;;"}) {
            Tried t = told(STORY, DEEDS);
            put(t, text);
            due("talk() of " + text, call(t, "talk", 0, 0) <= -100 ? 1 : 0, 1);
            same("talk() of " + text, traces(t), traces(told(STORY, DEEDS)));
        }
        // full steps and full acts stay, too
        Tried t = told("a>a!q;a>b;", "60*take(0) 12*cost(1,4)");
        put(t, "a.;x");
        expect(t, "talk()=-103");
        same("talk() with a fault", traces(t), traces(told("a>a!q;a>b;", "60*take(0) 12*cost(1,4)")));
    }

    private void promise4() {
        says("Promise 4", "Which FAULT the latest text had that was read (1 to 4);");
        Tried t = new Tried();
        put(t, "a>b");
        expect(t, "talk()=-103 fault()=1 fault()=1");
        put(t, "a>b?q|r|s|t;");
        expect(t, "fault()=1 talk()=-109 fault()=2");
        put(t, times("a>b;", 33));
        expect(t, "fault()=2 talk()=-229 fault()=3");
        put(t, "a>b!qQ;");
        expect(t, "fault()=3 talk()=-105 fault()=4 begin(0)=UNKNOWN fault()=4");
        says("Promise 4", "0: none, or none was read.");
        expect(new Tried(), "fault()=0 write(120)=1 fault()=0 talk()=-100 fault()=1");
        expect(t, "write(97)=1 write(46)=2 write(59)=3 fault()=4 talk()=0 fault()=0 take(0)=UNKNOWN fault()=0 talk()=-100"
                + " fault()=1");
    }

    private void all() {
        numbers();
        orderOfRefusals();
        kindsOfRefusal();
        refusedChangesNothing();
        lettersOfLines();
        lettersOfMarks();
        partsOfAnAnswer();
        lengthOfTheText();
        tokens();
        clauses();
        endingsAndLetters();
        numbersOfAnswers();
        firstFault();
        otherFaults();
        behindReading();
        promise1();
        promise2();
        promise3();
        promise4();
        covers(HEAD, ONE, "Promise 1", "Promise 2", "Promise 3", "Promise 4");
        end();
    }

    public static void main(String[] args) {
        new TextSentences().all();
    }
}
