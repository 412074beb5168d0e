/**
 * The document's sentences on what is done and what there is: part 2 of "Terms", promises 5 to 13,
 * and how long an object is used. Each sentence that names a boundary case has its test.
 */
public final class DeedSentences extends Sentences {
    private static final String TWO = "Terms 2";
    private static final String STORY = "a>b3?q|R!rS;a>a!q;b>c?q;c.;b>d;d>d;";
    private static final String DEEDS = "begin(4) take(1) take(0) cut(3,1) cost(0,7) cost(1,0)";

    // ---- Terms, part 2

    private static boolean holds(String guard, int marks) {
        if (guard.isEmpty()) return true;
        for (String alternative : guard.split("\\|")) {
            boolean all = true;
            for (char letter : alternative.toCharArray()) {
                boolean wanted = letter >= 'q';
                boolean there = (marks >> (letter - (wanted ? 'q' : 'Q')) & 1) == 1;
                all &= wanted == there;
            }
            if (all) return true;
        }
        return false;
    }

    private void open() {
        says(TWO, "A STATE is a LINE and the MARKS that there are.");
        tells("a>b;a>b!q;b>a;", "whole(0)=4 line(0,0)=2 line(1,0)=2 count(1)=0 take(1)=1 count(1)=1 take(2)=0 count(1)=1");
        says(TWO, "OPEN in a STATE are ANSWERS FROM its LINE that are not CUT, if that is no ENDING,");
        tells("a>b;b>a;", "answer(0,7)=1 answer(1,7)=0 count(3)=1 take(1)=NOT take(0)=1 answer(0,7)=0 answer(1,7)=1");
        tells("a>b;a>b;", "cut(0,1)=1 answer(0,7)=0 answer(1,7)=1 count(3)=1 take(0)=NOT cut(0,0)=2 answer(0,7)=1 take(0)=1");
        tells("a>b;b.;b>a;", "take(0)=1 answer(1,7)=0 count(3)=0 take(1)=NOT use(1)=0");
        tells("a.;a>b;", "answer(0,7)=0 count(3)=0 take(0)=NOT whole(0)=1");
        tells("a>b;a.;", "answer(0,7)=0 count(3)=0 take(0)=NOT whole(0)=1");
        // that the line it leads TO is an ending bars nothing
        tells("a>b;b.;", "answer(0,7)=1 take(0)=1");
        says(TWO, "and if a GUARD has no ALTERNATIVES, or one all of whose WANTED MARKS there are, and none of the BARRED ones.");
        for (String guard : new String[] {"", "q", "v", "Q", "V", "qR", "qrstuv", "QRSTUV", "qrsTUV", "qQ", "qQ|vV", "q|R",
            "qS|rs|TU", "vV|u", "qQ|rR|v", "q|r|s"}) {
            Tried t = told(guard.isEmpty() ? "a>b;" : "a>b?" + guard + ";", "");
            for (int marks = 0; marks < 64; marks++) {
                int open = holds(guard, marks) ? 1 : 0;
                expect(t, "begin(" + marks + ") count(3)=" + open + " answer(0,7)=" + open + " use(0)=" + 2 * open
                        + " take(0)=" + (open == 1 ? "1" : "NOT"));
            }
        }
    }

    private void taken() {
        says(TWO, "An ANSWER that is taken: its LINE TO is next, MARKS it LAYS are there, those it TAKES are not,"
                + " others as they were.");
        Tried t = told("a>p!qRuV;a>a;", "");
        for (int marks = 0; marks < 64; marks++) {
            int then = (marks | 17) & ~34;
            expect(t, "begin(" + marks + ") take(1)=0 count(1)=" + marks + " take(0)=15 count(0)=15 count(1)=" + then);
        }
        says(TWO, "BEGUN with MARKS: the STATE HERE is START with these (the BEGINNING); no ANSWERS were taken.");
        tells("p>a!q;a>p;", "take(0) take(1) take(0) begin(40)=15 count(0)=15 count(1)=40 count(2)=0 step(0)=NONE count(4)=0"
                + " back(1)=NOT line(15,1)=40 line(15,0)=2 begin(63)=15 count(1)=63 whole(0)=2 begin(0)=15 count(1)=0");
        says(TWO, "STEPS: the ANSWERS taken since (60 at most).");
        tells("a>a;a>a;", "take(1) begin(0) take(0) 58*take(1)=0 count(2)=59 take(0)=0 count(2)=60 take(0)=FULL count(2)=60"
                + " step(0)=0 step(1)=1 step(58)=1 step(59)=0 step(60)=NONE");
        tells("a>a;", "60*take(0)=0 take(0)=FULL begin(0)=0 60*take(0)=0 take(0)=FULL");
    }

    private void acts() {
        says(TWO, "ACTS (12 at most are kept, of more the oldest is forgotten;");
        String eleven = "cost(0,1)=0 cost(0,2)=1 cost(0,3)=2 cost(0,4)=3 cost(0,5)=4 cost(0,6)=5 cost(0,7)=6 cost(0,8)=7"
                + " cost(0,9)=8 cost(1,1) cost(1,2)=1";
        tells("a>b;b>a;", eleven + " count(9)=11 cost(1,3)=2 count(9)=12 11*undo() answer(0,2)=1 undo()=0 answer(0,2)=0"
                + " undo()=NOT");
        tells("a>b;b>a;", eleven + " cost(1,3)=2 cost(1,4)=3 count(9)=12 undo()=11 undo()=10 9*undo() answer(0,2)=2 undo()=0"
                + " answer(0,2)=1 undo()=NOT answer(0,2)=1");
        tells("a>b;b>a;", "cut(1,1)=1 " + eleven + " count(9)=12 cost(1,3)=2 count(9)=12 12*undo() answer(0,2)=0"
                + " answer(1,6)=1 undo()=NOT");
        // undoing makes room: what is forgotten is forgotten, what is kept is kept
        tells("a>b;b>a;", "cost(1,9)=0 " + eleven + " undo()=11 cost(1,7)=1 count(9)=12 cost(1,8)=7 count(9)=12 undo()=11"
                + " answer(1,2)=7 undo()=10 answer(1,2)=1 undo()=9 answer(1,2)=9 8*undo() answer(0,2)=1 undo()=0 answer(0,2)=0"
                + " undo()=NOT answer(1,2)=9");
        tells("a>b;", "200*cost(0,5) count(9)=12 cost(0,6)=5 count(9)=12 12*undo() answer(0,2)=5 undo()=NOT");
        says(TWO, "each can be undone, the latest first;");
        tells("a>b4;b>a;", "cost(0,5)=4 cut(0,1)=1 cost(1,6)=0 cut(0,0)=2 undo()=3 answer(0,6)=1 answer(1,2)=6 undo()=2"
                + " answer(1,2)=0 answer(0,6)=1 undo()=1 answer(0,6)=0 answer(0,2)=5 undo()=0 answer(0,2)=4 undo()=NOT");
        says(TWO, "also such by which nothing becomes another):");
        tells("a>b4;", "cost(0,4)=4 count(9)=1 cost(0,4)=4 count(9)=2 undo()=1 answer(0,2)=4 undo()=0 answer(0,2)=4 undo()=NOT");
        tells("a>b4;", "cost(0,3)=4 12*cost(0,3)=3 count(9)=12 12*undo() undo()=NOT answer(0,2)=3");
        says(TWO, "an ANSWER is CUT, laid again, its COST told anew.");
        tells("a>b;b>a;", "cut(0,1) count(9)=1 cut(0,0) count(9)=2 cost(0,1) count(9)=3 take(0)=1 back(1)=0 begin(3)=0"
                + " write(97) count(9)=3 undo()=2 count(9)=2");
        // what is refused is none
        tells("a>b;", "cut(0,0)=NOT cut(0,2)=OUTSIDE cut(1,1)=UNKNOWN cost(0,10)=OUTSIDE cost(1,1)=UNKNOWN count(9)=0 undo()=NOT");
        says(TWO, "(STEPS and HERE stay as they are by all of these.)");
        tells("a>b!q;b>c?q;c>a;", "take(0)=1 take(1)=2 cut(0,1)=2 cut(1,1)=1 cost(0,9)=0 count(0)=2 count(1)=1 count(2)=2"
                + " step(0)=0 step(1)=1 cut(0,0)=2 count(0)=2 count(2)=2 undo()=3 undo()=2 count(0)=2 count(1)=1 count(2)=2"
                + " whole(0)=1 undo()=1 undo()=0 count(0)=2 count(2)=2 take(2)=0");
    }

    // ---- what is done

    private void promise5() {
        says("Promise 5", "The TALK is BEGUN with MARKS (a SET, 0 to 63): START.");
        for (int marks = 0; marks < 64; marks++) {
            tells("k>a;", "begin(" + marks + ")=10 count(1)=" + marks + " line(10,1)=" + marks + " line(0,2)=" + marks);
        }
        says("Promise 5", "UNKNOWN (no TALK), OUTSIDE.");
        refuses("", "", "begin(0)=UNKNOWN begin(63)=UNKNOWN begin(64)=UNKNOWN begin(-1)=UNKNOWN");
        refuses(STORY, DEEDS, "begin(-1)=OUTSIDE begin(64)=OUTSIDE begin(127)=OUTSIDE begin(LOW)=OUTSIDE begin(HIGH)=OUTSIDE");
        // what was cut stays cut, acts can be undone yet
        tells("a>b;", "cut(0,1)=0 cost(0,3)=0 begin(7)=0 answer(0,6)=1 answer(0,2)=3 count(9)=2 undo()=1 undo()=0 count(1)=7");
    }

    private void promise6() {
        says("Promise 6", "An ANSWER is taken: the LINE then.");
        tells("a>p;p>p;p>a;", "take(0)=15 take(1)=15 take(2)=0 count(2)=3 step(2)=2");
        tells(times("b>b;", 31) + "b>c;", "take(0)=1 take(30)=1 take(31)=2 take(31)=NOT take(32)=UNKNOWN");
        says("Promise 6", "UNKNOWN; NOT: it is not OPEN HERE; FULL: 60 STEPS.");
        refuses("", "", "take(0)=UNKNOWN take(-1)=UNKNOWN");
        refuses(STORY, DEEDS, "take(-1)=UNKNOWN take(5)=UNKNOWN take(32)=UNKNOWN take(LOW)=UNKNOWN take(HIGH)=UNKNOWN"
                + " take(0)=NOT take(3)=NOT take(4)=NOT");
        refuses("a.;", "", "take(0)=UNKNOWN");
        // another line, cut, an ending, a guard
        refuses("a>b;b>a;", "", "take(1)=NOT");
        refuses("a>b;b>a;", "cut(0,1)", "take(0)=NOT");
        refuses("a>b;b.;b>a;", "take(0)", "take(1)=NOT take(0)=NOT");
        refuses("a>b?q;a>b?Q;", "", "take(0)=NOT");
        refuses("a>b?q;a>b?Q;", "begin(1)", "take(1)=NOT");
        tells("a>a;", "59*take(0)=0 take(0)=0 take(0)=FULL take(0)=FULL back(1)=0 take(0)=0 take(0)=FULL");
        refuses("a>a!q;a>b;b>a;", "60*take(0)", "take(0)=FULL take(1)=FULL take(2)=NOT take(3)=UNKNOWN take(-1)=UNKNOWN");
        refuses("a>a!q;a>b;", "60*take(0) cut(0,1)", "take(0)=NOT take(1)=FULL");
        refuses("a>a;a>b;", "59*take(0) take(1)", "take(0)=NOT take(1)=NOT");
    }

    private void promise7() {
        says("Promise 7", "n STEPS (1 to 60) are gone back (all as if they had not been taken; ANSWERS CUT since stay CUT):"
                + " the LINE then.");
        tells("a>b!q;b>c!rQ;c>d!s;", "begin(32) take(0) take(1) take(2) count(1)=38 back(1)=2 count(1)=34 count(2)=2 step(2)=NONE"
                + " back(2)=0 count(1)=32 count(2)=0 step(0)=NONE take(0)=1 take(1)=2 take(2)=3 back(3)=0 count(1)=32");
        tells("a>a5!q;", "60*take(0) count(4)=300 back(60)=0 count(2)=0 count(1)=0 count(4)=0");
        tells("a>a5!q;", "60*take(0) back(59)=0 count(2)=1 count(1)=1 count(4)=5 back(1)=0 count(2)=0 count(1)=0");
        // a mark that was laid twice stays, if it is gone back behind the second time alone
        tells("a>a!q;a>a!Q;", "take(0) take(0) back(1) count(1)=1 back(1) count(1)=0 take(0) take(1) count(1)=0 back(1) count(1)=1");
        tells("a>b;b>a;", "take(0) take(1) cut(0,1)=1 cost(1,5)=0 back(1)=1 answer(0,6)=1 answer(1,2)=5 count(9)=2 back(1)=0"
                + " answer(0,6)=1 take(0)=NOT undo()=1 undo()=0 take(0)=1");
        // gone back past an answer that is cut now, and to one whose way is
        tells("a>b;b>c;c>d;", "take(0) take(1) take(2) cut(1,1) cut(0,1) back(2)=1 count(2)=1 step(0)=0");
        says("Promise 7", "UNKNOWN (no TALK), OUTSIDE; NOT: there are not so many.");
        refuses("", "", "back(1)=UNKNOWN back(0)=UNKNOWN back(60)=UNKNOWN back(61)=UNKNOWN");
        refuses(STORY, DEEDS, "back(0)=OUTSIDE back(-1)=OUTSIDE back(61)=OUTSIDE back(LOW)=OUTSIDE back(HIGH)=OUTSIDE"
                + " back(3)=NOT back(60)=NOT");
        refuses("a>a;", "", "back(1)=NOT back(60)=NOT back(0)=OUTSIDE back(61)=OUTSIDE");
        refuses("a>a;", "59*take(0)", "back(60)=NOT back(61)=OUTSIDE");
        refuses("a>a;", "60*take(0)", "back(61)=OUTSIDE back(0)=OUTSIDE");
        tells("a>a;", "60*take(0) back(60)=0 back(1)=NOT");
        tells("a>a;", "take(0) begin(0) back(1)=NOT");
    }

    private void promise8() {
        says("Promise 8", "An ANSWER is CUT (on = 1), laid again (0): how many are not CUT.");
        tells("a>b;b>a;b>b;", "cut(2,1)=2 cut(0,1)=1 cut(1,1)=0 answer(0,6)=1 answer(1,6)=1 answer(2,6)=1 whole(0)=1 cut(1,0)=1"
                + " answer(1,6)=0 cut(0,0)=2 cut(2,0)=3 answer(2,6)=0 whole(0)=2");
        Tried t = told(times("a>b;", 32), "");
        for (int a = 31; a >= 0; a--) expect(t, "cut(" + a + ",1)=" + a + " answer(" + a + ",6)=1 count(3)=" + a);
        for (int a = 31; a >= 0; a--) expect(t, "cut(" + a + ",0)=" + (32 - a) + " answer(" + a + ",6)=0 rows(1,1)=" + (32 - a));
        says("Promise 8", "UNKNOWN, OUTSIDE; NOT: it is so.");
        refuses("", "", "cut(0,1)=UNKNOWN cut(0,0)=UNKNOWN cut(0,2)=UNKNOWN");
        refuses(STORY, DEEDS, "cut(-1,1)=UNKNOWN cut(5,1)=UNKNOWN cut(5,2)=UNKNOWN cut(32,1)=UNKNOWN cut(LOW,1)=UNKNOWN"
                + " cut(HIGH,1)=UNKNOWN cut(0,2)=OUTSIDE cut(0,-1)=OUTSIDE cut(3,2)=OUTSIDE cut(0,LOW)=OUTSIDE"
                + " cut(0,HIGH)=OUTSIDE cut(3,1)=NOT cut(0,0)=NOT");
        refuses("a>b;b>a;", "12*cost(0,4) cut(0,1)", "cut(0,1)=NOT cut(1,0)=NOT cut(0,2)=OUTSIDE cut(2,1)=UNKNOWN");
    }

    private void promise9() {
        says("Promise 9", "The COST of an ANSWER is v (0 to 9): what it was.");
        tells("a>b4;b>a;", "cost(0,9)=4 answer(0,2)=9 cost(0,0)=9 answer(0,2)=0 cost(0,0)=0 cost(1,9)=0 answer(1,2)=9 answer(0,2)=0");
        for (int v = 0; v <= 9; v++) {
            tells("a>b5;", "cost(0," + v + ")=5 answer(0,2)=" + v + " least(1,1)=" + v + " take(0) count(4)=" + v);
        }
        tells(times("a>b;", 31) + "a>c;", "cost(31,9)=0 answer(31,2)=9 answer(30,2)=0 least(2,1)=9 least(1,1)=0");
        // of a cut one, too
        tells("a>b5;", "cut(0,1) cost(0,6)=5 answer(0,2)=6 least(1,1)=NONE cut(0,0) least(1,1)=6");
        says("Promise 9", "UNKNOWN, OUTSIDE.");
        refuses("", "", "cost(0,0)=UNKNOWN cost(0,10)=UNKNOWN");
        refuses(STORY, DEEDS, "cost(-1,0)=UNKNOWN cost(5,0)=UNKNOWN cost(5,10)=UNKNOWN cost(LOW,0)=UNKNOWN cost(HIGH,0)=UNKNOWN"
                + " cost(0,-1)=OUTSIDE cost(0,10)=OUTSIDE cost(0,LOW)=OUTSIDE cost(0,HIGH)=OUTSIDE");
        refuses("a>b;", "12*cost(0,4)", "cost(0,10)=OUTSIDE cost(0,-1)=OUTSIDE cost(1,4)=UNKNOWN");
    }

    private void promise10() {
        says("Promise 10", "The latest ACT is undone: how many can be yet.");
        tells("a>b4;b>a;", "cut(0,1) whole(0)=1 undo()=0 answer(0,6)=0 whole(0)=2");
        tells("a>b4;b>a;", "cut(0,1) cut(0,0) whole(0)=2 undo()=1 answer(0,6)=1 whole(0)=1 undo()=0 whole(0)=2");
        tells("a>b4;b>a;", "cost(0,9) least(1,1)=9 undo()=0 answer(0,2)=4 least(1,1)=4");
        tells("a>b;", "12*cost(0,1) undo()=11 undo()=10 undo()=9 undo()=8 undo()=7 undo()=6 undo()=5 undo()=4 undo()=3 undo()=2"
                + " undo()=1 undo()=0 undo()=NOT answer(0,2)=0");
        // what is undone is no act itself
        tells("a>b;", "cost(0,1) undo()=0 undo()=NOT cost(0,2)=0 undo()=0 answer(0,2)=0");
        // an answer that was cut is laid again, when more than one is cut
        tells("a>b;b>a;a>a;", "cut(1,1) cut(2,1) cut(0,1) undo()=2 answer(0,6)=0 answer(1,6)=1 answer(2,6)=1 undo()=1"
                + " answer(2,6)=0 answer(1,6)=1");
        says("Promise 10", "UNKNOWN (no TALK); NOT: none can.");
        refuses("", "", "undo()=UNKNOWN");
        refuses("", "write(97) talk()", "undo()=UNKNOWN");
        refuses(STORY, "begin(3) take(0)", "undo()=NOT");
        refuses(STORY, "cut(1,1) cost(0,5) undo() undo()", "undo()=NOT");
        refuses("a>b;b>a;", "cut(0,1) 12*cost(0,3) 12*undo()", "undo()=NOT");
    }

    // ---- what there is

    private void promise11Numbers() {
        String p = "Promise 11";
        says(p, "Of an ANSWER: what = 0 FROM, 1 TO, 2 COST,");
        tells("b>p7;p>a;", "answer(0,0)=1 answer(0,1)=15 answer(0,2)=7 answer(1,0)=15 answer(1,1)=0 answer(1,2)=0 cost(1,9)"
                + " answer(1,2)=9 undo() answer(1,2)=0");
        says(p, "3 how many ALTERNATIVES,");
        tells("a>b;a>b?q;a>b?q|Q;a>b?q|qQ|q;", "answer(0,3)=0 answer(1,3)=1 answer(2,3)=2 answer(3,3)=3");
        says(p, "4 the SET of MARKS that it LAYS, 5 TAKES,");
        tells("a>b?rS;a>b!qV;a>b!qrstuv;a>b!QRSTUV;", "answer(0,4)=0 answer(0,5)=0 answer(1,4)=1 answer(1,5)=32 answer(2,4)=63"
                + " answer(2,5)=0 answer(3,4)=0 answer(3,5)=63");
        says(p, "6 whether it is CUT (1, 0),");
        tells("a>b;a>b;", "answer(0,6)=0 cut(0,1) answer(0,6)=1 answer(1,6)=0 cut(0,0) answer(0,6)=0 undo() answer(0,6)=1");
        says(p, "7 whether it is OPEN HERE (1, 0),");
        tells("a>b?q;a>b?Q;b>a!q;a>c;c.;c>a;", "answer(0,7)=0 answer(1,7)=1 answer(2,7)=0 take(1) answer(1,7)=0 answer(2,7)=1"
                + " take(2) answer(0,7)=1 answer(1,7)=0 cut(0,1) answer(0,7)=0 cut(0,0) answer(0,7)=1 take(3)=2 answer(4,7)=0"
                + " back(1) answer(0,7)=1 begin(0) answer(0,7)=0");
        // at the sixtieth step it is open yet
        tells("a>a;", "60*take(0) answer(0,7)=1 count(3)=1 take(0)=FULL");
        says(p, "8 whether its GUARD has ALTERNATIVES, in each of which some MARK is both WANTED and BARRED (1, 0);");
        tells("a>b;a>b?q;a>b?qQ;a>b?qQ|rR;a>b?qQ|r;a>b?q|rR;a>b?qQ|rR|sS;a>b?qQ|rR|s;a>b?qQ|r|sS;a>b?q|rR|sS;a>b?vsTV;a>b?qR|Qr;"
                + "a>b!q;", "answer(0,8)=0 answer(1,8)=0 answer(2,8)=1 answer(3,8)=1 answer(4,8)=0 answer(5,8)=0 answer(6,8)=1"
                + " answer(7,8)=0 answer(8,8)=0 answer(9,8)=0 answer(10,8)=1 answer(11,8)=0 answer(12,8)=0");
        // cut, or at an ending, it is the same
        tells("a>b?qQ;a.;", "cut(0,1) answer(0,8)=1");
    }

    private void promise11Sets() {
        String p = "Promise 11";
        says(p, "10 and 2 k, 11 and 2 k: the SETS of MARKS that ALTERNATIVE k WANTS, BARS.");
        tells("a>b?q|v|rS;a>b?Q;a>b?qrstuvQRSTUV|q;", "answer(0,10)=1 answer(0,11)=0 answer(0,12)=32 answer(0,13)=0 answer(0,14)=2"
                + " answer(0,15)=4 answer(1,10)=0 answer(1,11)=1 answer(2,10)=63 answer(2,11)=63 answer(2,12)=1 answer(2,13)=0");
        tells(times("a>b;", 31) + "a>b?u|V|qR;", "answer(31,10)=16 answer(31,11)=0 answer(31,12)=0 answer(31,13)=32 answer(31,14)=1"
                + " answer(31,15)=2 answer(31,16)=OUTSIDE answer(30,10)=OUTSIDE");
        says(p, "UNKNOWN, OUTSIDE (an ALTERNATIVE that there is not, too).");
        refuses("", "", "answer(0,0)=UNKNOWN answer(0,-1)=UNKNOWN answer(0,16)=UNKNOWN");
        refuses(STORY, DEEDS, "answer(-1,0)=UNKNOWN answer(5,0)=UNKNOWN answer(5,9)=UNKNOWN answer(LOW,0)=UNKNOWN"
                + " answer(HIGH,0)=UNKNOWN answer(0,-1)=OUTSIDE answer(0,9)=OUTSIDE answer(0,14)=OUTSIDE answer(0,15)=OUTSIDE"
                + " answer(0,16)=OUTSIDE answer(0,LOW)=OUTSIDE answer(0,HIGH)=OUTSIDE");
        tells("a>b;a>b?q;a>b?q|r;a>b?q|r|s;", "answer(0,10)=OUTSIDE answer(0,11)=OUTSIDE answer(1,11)=0 answer(1,12)=OUTSIDE"
                + " answer(1,13)=OUTSIDE answer(2,13)=0 answer(2,14)=OUTSIDE answer(2,15)=OUTSIDE answer(3,15)=0"
                + " answer(3,16)=OUTSIDE answer(3,17)=OUTSIDE answer(3,9)=OUTSIDE");
        // answers that a talk before had, with more alternatives
        Tried t = told("a>b?q|r|s!t;a>b;", "");
        put(t, "a>b?v;");
        expect(t, "talk()=1 answer(0,3)=1 answer(0,11)=0 answer(0,12)=OUTSIDE answer(0,14)=OUTSIDE answer(1,0)=UNKNOWN");
    }

    private void promise12() {
        String p = "Promise 12";
        says(p, "0 the LINE HERE, 1 MARKS HERE, 2 how many STEPS,");
        tells("p>a!v;a>p!q;", "count(0)=15 count(1)=0 count(2)=0 take(0) count(0)=0 count(1)=32 count(2)=1 take(1) count(0)=15"
                + " count(1)=33 count(2)=2 begin(63) count(0)=15 count(1)=63 count(2)=0 take(0) take(1) back(1) count(0)=0 count(2)=1");
        tells("a>a!q;", "60*take(0) count(2)=60 take(0) count(2)=60 back(60) count(2)=0");
        says(p, "3 how many ANSWERS are OPEN HERE,");
        tells("a>b;a>b?q;a>b?Q;b.;b>a;", "count(3)=2 cut(0,1) count(3)=1 cut(2,1) count(3)=0 begin(1) count(3)=1 cut(0,0) take(0)"
                + " count(3)=0");
        tells(times("a>b;", 32), "count(3)=32 take(31) count(3)=0");
        tells("a.;", "count(3)=0");
        says(p, "4 COSTS of all STEPS, together (as ANSWERS cost now),");
        tells("a>a9;a>a2;", "count(4)=0 take(0) count(4)=9 take(1) count(4)=11 take(0) count(4)=20 cost(0,1) count(4)=4 undo()"
                + " count(4)=20 cut(0,1) count(4)=20 back(1) count(4)=11 begin(0) count(4)=0");
        tells("a>a9;", "60*take(0) count(4)=540 cost(0,0) count(4)=0");
        says(p, "5 START, 6 the SET of LINES that are THERE, 7 of those that are ENDINGS, 8 how many ANSWERS,");
        tells("p>a;b.;", "count(5)=15 count(6)=32771 count(7)=2 count(8)=1 take(0) count(5)=15 cut(0,1) count(8)=1 count(6)=32771");
        tells("a.;", "count(5)=0 count(6)=1 count(7)=1 count(8)=0");
        tells("a>a;", "count(6)=1 count(7)=0 count(8)=1");
        tells("a>b;c>d;e>f;g>h;i>j;k>l;m>n;o>p;p.;a.;", "count(6)=65535 count(7)=32769 count(8)=8");
        tells(times("a>b;", 32), "count(8)=32");
        says(p, "9 ACTS that can be undone,");
        tells("a>b;", "count(9)=0 cut(0,1) count(9)=1 10*cost(0,2) count(9)=11 cost(0,2) count(9)=12 cost(0,3) count(9)=12 undo()"
                + " count(9)=11 11*undo() count(9)=0 undo()=NOT count(9)=0");
        says(p, "10 bytes of THE TEXT (10 without a TALK, too).");
        expect(new Tried(), "count(10)=0 write(97) count(10)=1 198*write(97) count(10)=199 write(97) count(10)=200 write(97)=FULL"
                + " count(10)=200 talk() count(10)=0");
        tells("a.;", "count(10)=0 write(97) count(10)=1 begin(0) count(10)=1 talk()=-101 count(10)=0");
        says(p, "UNKNOWN (no TALK; but 10), OUTSIDE.");
        refuses("", "write(97)", "count(0)=UNKNOWN count(1)=UNKNOWN count(2)=UNKNOWN count(3)=UNKNOWN count(4)=UNKNOWN"
                + " count(5)=UNKNOWN count(6)=UNKNOWN count(7)=UNKNOWN count(8)=UNKNOWN count(9)=UNKNOWN count(11)=UNKNOWN"
                + " count(-1)=UNKNOWN count(LOW)=UNKNOWN count(HIGH)=UNKNOWN count(10)=1");
        refuses(STORY, DEEDS, "count(11)=OUTSIDE count(-1)=OUTSIDE count(LOW)=OUTSIDE count(HIGH)=OUTSIDE count(10)=0");
    }

    private void promise13() {
        says("Promise 13", "STEP i (0 the first): the ANSWER; NONE: not so many.");
        tells("a>a;a>a;a>b;", "step(0)=NONE take(1) step(0)=1 step(1)=NONE take(0) take(2) step(0)=1 step(1)=0 step(2)=2 step(3)=NONE"
                + " step(59)=NONE step(60)=NONE step(61)=NONE step(HIGH)=NONE back(1) step(1)=0 step(2)=NONE begin(0) step(0)=NONE");
        tells("a>a;a>a;", "59*take(0) step(58)=0 step(59)=NONE take(1) step(59)=1 step(60)=NONE take(0)=FULL step(59)=1 step(60)=NONE");
        tells(times("a>a;", 32), "take(31) step(0)=31");
        says("Promise 13", "UNKNOWN (no TALK), OUTSIDE: i below 0.");
        refuses("", "", "step(0)=UNKNOWN step(-1)=UNKNOWN");
        refuses(STORY, DEEDS, "step(-1)=OUTSIDE step(LOW)=OUTSIDE");
        tells("a>a;", "step(-1)=OUTSIDE step(0)=NONE");
    }

    /** The last of these calls is answered as the first ones are. */
    private void lastCalls() {
        says("What it is", "An object is used for at most 512 calls after it has been made; what later calls answer is free.");
        Tried t = told("a>b;b>a;", "begin(5)");
        while (t.calls < MOST_CALLS - 6) expect(t, "count(2)=0");
        expect(t, "take(0)=1 cut(0,1)=1 undo()=0 back(1)=0 whole(0)=2 rows(0,80)=1");
        t = told("a>a;", "60*take(0) 60*cost(0,7) write(97)");
        while (t.calls < MOST_CALLS - 2) expect(t, "write(97)");
        expect(t, "write(97)=FULL talk()=-101");
    }

    private void all() {
        open();
        taken();
        acts();
        promise5();
        promise6();
        promise7();
        promise8();
        promise9();
        promise10();
        promise11Numbers();
        promise11Sets();
        promise12();
        promise13();
        lastCalls();
        covers(TWO, "Promise 5", "Promise 6", "Promise 7", "Promise 8", "Promise 9", "Promise 10", "Promise 11", "Promise 12",
                "Promise 13");
        end();
    }

    public static void main(String[] args) {
        new DeedSentences().all();
    }
}
