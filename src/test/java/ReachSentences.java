/**
 * The document's sentences on what is come to: part 3 of "Terms", promises 14 to 23. Each sentence
 * that names a boundary case has its test.
 */
public final class ReachSentences extends Sentences {
    private static final String THREE = "Terms 3";
    private static final String STORY = "a>b3?q|R!rS;a>a!q;b>c?q;c.;b>d;d>d;";
    private static final String DEEDS = "begin(4) take(1) take(0) cut(3,1) cost(0,7) cost(1,0)";
    private static final String LAYING = "a>a!q;a>a!r;a>a!s;a>a!t;a>a!u;a>a!v;";
    private static final String TAKING = "a>a!Q;a>a!R;a>a!S;a>a!T;a>a!U;a>a!V;";

    /** Answers that count the marks up by one, as bits, each of them so many times. */
    private static String counter(String way, int copies) {
        StringBuilder s = new StringBuilder();
        for (int mark = 0; mark < 6; mark++) {
            String lower = "qrstuv".substring(0, mark), taken = lower.toUpperCase();
            char next = "qrstuv".charAt(mark);
            s.append((way + "?" + lower + Character.toUpperCase(next) + "!" + taken + next + ";").repeat(copies));
        }
        return s.toString();
    }

    private static String chain(char first, char last, String cost) {
        StringBuilder s = new StringBuilder();
        for (char line = first; line < last; line++) s.append(line).append('>').append((char) (line + 1)).append(cost).append(';');
        return s.toString();
    }

    /** All 1024 states, one behind the other, in one ring: 15 answers to p, by 7 others to a again. */
    private static final String RING = chain('a', 'p', "") + counter("p>a", 1) + "p>a?qrstuv!QRSTUV;";
    /** Line p is come to behind 960 answers alone, each of cost 9: 14 links, 6 that count, the last one. */
    private static final String LONG = chain('a', 'o', "9") + counter("o>a9", 1) + "o>p9?qrstuv;";

    /** All 1024 states, and 32 answers each of which is open in all 64 of its line. */
    private static final String FULLEST = chain('a', 'p', "") + "p>a;" + LAYING + TAKING + times("a>a;", 4);

    // ---- Terms, part 3

    private void reached() {
        says(THREE, "REACHED are the BEGINNING and all STATES that come of REACHED ones by OPEN ANSWERS;");
        tells("a.;", "whole(0)=1 line(0,0)=1");
        tells("a>b;b>c?q;c>d;", "whole(0)=2 line(2,0)=0 line(3,0)=0 begin(1) whole(0)=4 line(2,0)=1 line(3,0)=1");
        tells("a>b;b>c;", "whole(0)=3 cut(0,1) whole(0)=1 line(1,0)=0 cut(0,0) whole(0)=3 cut(1,1) whole(0)=2");
        tells("a>b;b>c;b.;", "whole(0)=2 line(2,0)=0");
        // from the BEGINNING, wherever HERE is
        tells("a>b;b>c;", "take(0) take(1) whole(0)=3 line(0,0)=1 cut(0,1) whole(0)=1 line(2,0)=0 count(0)=2");
        tells(RING, "whole(0)=1024 line(0,0)=64 line(15,0)=64");
        says(THREE, "a LINE is, if a STATE of it is.");
        tells("a>b!q;b>c?q;b>d?Q;", "whole(1)=8 least(2,0)=2 least(3,0)=NONE line(3,0)=0");
        tells("b>b;a>b;", "whole(1)=1 least(0,0)=NONE least(1,0)=0");
        says(THREE, "A ROW to a STATE: ANSWERS from the BEGINNING on, each OPEN where it is taken.");
        tells("a>b!q;b>c?q;b>c?Q;", "rows(2,2)=1 row(2,0)=0 row(2,1)=1 row(2,2)=NONE rows(0,0)=1 rows(1,0)=0 take(0) rows(2,2)=1"
                + " rows(2,1)=0 least(2,0)=2 least(1,0)=1");
    }

    private void stuckAndLost() {
        says(THREE, "STUCK is a REACHED STATE without OPEN ANSWERS whose LINE is no ENDING.");
        tells("a>b;", "line(0,3)=0 line(1,3)=1 whole(2)=2");
        tells("a>b;b.;", "line(1,3)=0 whole(2)=0");
        tells("a>b;b.;b>a;", "line(1,3)=0 whole(2)=0");
        tells("a>b?q;", "line(0,3)=1 line(1,3)=0 whole(2)=1");
        tells("a>a;", "line(0,3)=0 whole(2)=0");
        tells("a>b!q;a>b;b>c?q;c.;", "line(1,3)=1 line(1,0)=2 whole(2)=2");
        tells("a>b;b>a;", "whole(2)=0 cut(1,1) line(1,3)=1 whole(2)=2 cut(0,1) line(0,3)=1 line(1,3)=0 whole(2)=1");
        says(THREE, "LOST is a REACHED STATE that is at no ENDING, and from which no STATE of an ENDING is come to.");
        tells("a>b;b>a;", "line(0,4)=1 line(1,4)=1 whole(3)=3");
        tells("a>b;b.;", "line(0,4)=0 line(1,4)=0 whole(3)=0");
        tells("a.;a>b;", "line(0,4)=0 line(1,4)=0 whole(3)=0");
        tells("a>b;a>c;b>b;c.;", "line(0,4)=0 line(1,4)=1 line(2,4)=0 whole(3)=2");
        // an ending that is not come to saves none
        tells("a>b;c.;", "line(0,4)=1 line(1,4)=1 line(2,4)=0 whole(3)=3");
        tells("a>b;b>c?q;c.;", "line(0,4)=1 line(1,4)=1 whole(3)=3 begin(1) whole(3)=0");
        // the same line with other marks is not lost
        tells("a>b!q;a>b;b>c?q;c.;", "line(1,4)=1 line(0,4)=0 whole(3)=2");
        tells("a>b;b.;", "cut(0,1) line(0,4)=1 line(1,4)=0 whole(3)=1 cut(0,0) whole(3)=0");
        tells(RING, "whole(3)=65535 line(0,4)=64 line(15,4)=64");
        tells(LONG + "p.;", "whole(3)=0 line(0,4)=0 cut(20,1) whole(3)=32767 line(0,4)=64 line(14,4)=64 line(15,4)=0");
        says(THREE, "A LOOP is a row of one ANSWER or more from a STATE to itself.");
        tells("a>a;", "loop(0)=1 whole(4)=1");
        tells("a.;", "loop(0)=NONE whole(4)=0");
        tells("a>a;a.;", "loop(0)=NONE whole(4)=0");
        tells("a>a!q;", "loop(0)=1 whole(4)=1");
        // the same line with other marks is another state
        tells("a>a?Q!q;", "loop(0)=NONE whole(4)=0");
        tells("a>b?Q;b>a!q;", "loop(0)=NONE loop(1)=NONE whole(4)=0");
        tells("a>b;b>a!q;", "loop(0)=2 loop(1)=2 whole(4)=3");
        tells("a>a?Q!q;a>a?q!Q;", "loop(0)=2");
    }

    /** 32 answers, each open in 64 states: more ways than these can no talk have. */
    private void mostWays() {
        says(THREE, "by OPEN ANSWERS;");
        tells(LAYING + times("a>a9;", 25) + "a>b9;", "whole(0)=128 whole(1)=0 whole(2)=2 whole(3)=3 whole(4)=1 whole(5)=32"
                + " whole(6)=0 whole(7)=7 line(0,0)=64 line(1,4)=64 least(1,0)=1 least(1,1)=9 needs(1)=0 must(1,0)=31 must(1,1)=NONE"
                + " loop(0)=1 loop(1)=NONE use(31)=2 use(0)=2 mark(5,2)=1 rows(1,1)=1 rows(1,2)=31 rows(0,2)=961 row(1,0)=31");
        // and all 1024 states with them
        tells(FULLEST, "whole(0)=1024 whole(1)=0 whole(2)=0 whole(3)=65535 whole(4)=65535 whole(5)=17 whole(6)=0 whole(7)=21"
                + " line(0,0)=64 line(15,0)=64 line(15,1)=0 line(15,2)=63 line(15,4)=64 least(15,0)=15 least(15,1)=0 needs(15)=0"
                + " must(15,14)=14 must(15,15)=NONE row(15,14)=14 row(15,15)=NONE loop(0)=1 loop(7)=16 loop(15)=16 use(0)=2"
                + " use(15)=2 use(31)=2 rows(0,15)=1152921504606846976 rows(0,16)=FULL rows(7,17)=1099511627776 rows(15,17)=256"
                + " cut(15,1)=31 whole(0)=1024 whole(2)=32768 whole(4)=1 loop(7)=NONE undo()=0 whole(4)=65535 loop(7)=16");
    }

    // ---- promises 14 to 16

    private void promise14() {
        String p = "Promise 14";
        says(p, "Of a LINE that is THERE: what = 0 how many REACHED STATES it has,");
        tells("a>b?q;", "line(0,0)=1 line(1,0)=0");
        tells(LAYING + "a>b;", "line(0,0)=64 line(1,0)=64 begin(63) line(0,0)=1 line(1,0)=1 begin(31) line(1,0)=2");
        tells("p.;", "line(15,0)=1");
        says(p, "1 the SET of MARKS that are in all of these, 2 in some of these (1, 2: 0, if there are none),");
        tells("a>b?v;", "line(0,1)=0 line(0,2)=0 line(1,1)=0 line(1,2)=0 begin(63) line(0,1)=63 line(0,2)=63 line(1,1)=63"
                + " line(1,2)=63 begin(31) line(0,1)=31 line(1,1)=0 line(1,2)=0");
        tells(LAYING, "line(0,1)=0 line(0,2)=63 begin(33) line(0,1)=33 line(0,2)=63");
        tells("a>b!qr;a>b!rs;a>c!v;", "line(1,1)=2 line(1,2)=7 line(2,1)=32 line(2,2)=32 line(0,2)=0");
        tells("a>b!Q;", "begin(1) line(0,1)=1 line(1,1)=0 line(1,2)=0");
        says(p, "3 how many of them are STUCK, 4 LOST,");
        tells(LAYING + "a>b;", "line(1,3)=64 line(1,4)=64 line(0,3)=0 line(0,4)=64");
        tells(LAYING + "a>b;b>c?q;c.;", "line(1,3)=32 line(1,4)=32 line(0,3)=0 line(0,4)=0 line(2,3)=0 line(2,4)=0 line(2,0)=32");
        tells("a>b?q;", "line(1,3)=0 line(1,4)=0");
        says(p, "5 whether it is an ENDING (1, 0).");
        tells("a>b;p.;", "line(0,5)=0 line(1,5)=0 line(15,5)=1");
        tells("a.;b>a;", "line(0,5)=1 line(1,5)=0");
        says(p, "UNKNOWN, OUTSIDE.");
        refuses("", "", "line(0,0)=UNKNOWN line(0,6)=UNKNOWN");
        refuses(STORY, DEEDS, "line(-1,0)=UNKNOWN line(4,0)=UNKNOWN line(4,5)=UNKNOWN line(15,0)=UNKNOWN line(16,0)=UNKNOWN"
                + " line(32,0)=UNKNOWN line(LOW,0)=UNKNOWN line(HIGH,0)=UNKNOWN line(4,6)=UNKNOWN line(0,6)=OUTSIDE"
                + " line(0,-1)=OUTSIDE line(3,6)=OUTSIDE line(0,LOW)=OUTSIDE line(0,HIGH)=OUTSIDE");
    }

    private void promise15() {
        String p = "Promise 15";
        says(p, "Of a LINE that is THERE: the fewest ANSWERS (what = 0), the least COSTS, together (1), of a ROW to a STATE of it;");
        tells("a>a9;", "least(0,0)=0 least(0,1)=0");
        tells("a>b0;b>c;", "least(1,0)=1 least(1,1)=0 least(2,0)=2 least(2,1)=0");
        tells("a>b9;", "least(1,0)=1 least(1,1)=9");
        // not the same row: the one is shorter, the other cheaper
        tells("a>b9;a>c1;c>d1;d>b1;", "least(1,0)=1 least(1,1)=3 cost(0,3) least(1,1)=3 cost(0,2) least(1,1)=2 undo() undo()"
                + " least(1,1)=3 cut(1,1) least(1,1)=9 least(1,0)=1");
        // the cheapest way is the longest, by answers from the last line to the first
        tells("a>b9;a>c8;a>d7;a>e6;a>f1;f>e1;e>d1;d>c1;c>b1;", "least(1,1)=5 least(2,1)=4 least(3,1)=3 least(4,1)=2 least(1,0)=1");
        // nor the same state of the line
        tells("a>b9!q;a>c;c>b1!r;", "least(1,0)=1 least(1,1)=1");
        // no way leads on through an ending
        tells("a>b;b.;b>c;a>d9;d>c9;", "least(2,0)=2 least(2,1)=18");
        tells(LONG, "least(15,0)=960 least(15,1)=8640 least(14,0)=14 least(14,1)=126 cost(20,0)=9 least(15,1)=8631 least(15,0)=960");
        tells(RING, "least(0,0)=0 least(15,0)=15 least(15,1)=0");
        // from the beginning, wherever HERE is, and with its marks
        tells("a>b4;b>c5;a>c2?q;", "take(0) least(2,0)=2 least(2,1)=9 begin(1) least(2,0)=1 least(2,1)=2");
        says(p, "NONE: it is not REACHED.");
        tells("a>b?q;c>a;", "least(1,0)=NONE least(1,1)=NONE least(2,0)=NONE least(2,1)=NONE");
        tells("a>b;", "cut(0,1) least(1,0)=NONE least(1,1)=NONE cut(0,0) least(1,0)=1");
        says(p, "UNKNOWN, OUTSIDE.");
        refuses("", "", "least(0,0)=UNKNOWN least(0,2)=UNKNOWN");
        refuses(STORY, DEEDS, "least(-1,0)=UNKNOWN least(4,0)=UNKNOWN least(16,0)=UNKNOWN least(LOW,0)=UNKNOWN"
                + " least(HIGH,0)=UNKNOWN least(4,2)=UNKNOWN least(0,2)=OUTSIDE least(0,-1)=OUTSIDE least(3,2)=OUTSIDE"
                + " least(0,LOW)=OUTSIDE least(0,HIGH)=OUTSIDE");
    }

    private void promise16() {
        String p = "Promise 16";
        says(p, "The ANSWER that is number i (0 on) of the ROW of the fewest ANSWERS to a LINE that is THERE, of several that"
                + " which is first by numbers of ANSWERS;");
        tells("a>b;a>b;", "row(1,0)=0 cut(0,1) row(1,0)=1 undo() row(1,0)=0");
        // the first answers count first, though the last one is greater
        tells("a>c;a>b;b>d;c>d;", "row(3,0)=0 row(3,1)=3");
        tells("a>b;a>c;c>d;b>d;", "row(3,0)=0 row(3,1)=3");
        // also among states of the line with other marks
        tells("a>b!q;a>b;b>c?Q;b>c?q;", "row(2,0)=0 row(2,1)=3");
        // few answers ahead of small numbers
        tells("a>b;b>c;a>c;", "row(2,0)=2 row(2,1)=NONE");
        // not the cheapest
        tells("a>b1;b>c1;a>c9;", "row(2,0)=2");
        tells(times("a>a;", 31) + "a>b;", "row(1,0)=31");
        tells(LONG, "row(15,0)=0 row(15,13)=13 row(15,14)=14 row(15,15)=0 row(15,29)=15 row(15,958)=13 row(15,959)=20 row(15,960)=NONE"
                + " row(14,13)=13 row(14,14)=NONE");
        says(p, "NONE: not so many, or it is not REACHED.");
        tells("a>b;c>a;", "row(0,0)=NONE row(0,HIGH)=NONE row(1,0)=0 row(1,1)=NONE row(1,2)=NONE row(1,HIGH)=NONE row(2,0)=NONE"
                + " row(2,HIGH)=NONE cut(0,1) row(1,0)=NONE");
        says(p, "UNKNOWN, OUTSIDE: i below 0.");
        refuses("", "", "row(0,0)=UNKNOWN row(0,-1)=UNKNOWN");
        refuses(STORY, DEEDS, "row(-1,0)=UNKNOWN row(4,0)=UNKNOWN row(16,0)=UNKNOWN row(LOW,0)=UNKNOWN row(HIGH,0)=UNKNOWN"
                + " row(4,-1)=UNKNOWN row(0,-1)=OUTSIDE row(2,-1)=OUTSIDE row(3,-1)=OUTSIDE row(1,LOW)=OUTSIDE");
    }

    // ---- promises 17 to 20

    private void promise17() {
        String p = "Promise 17";
        says(p, "The SET of MARKS that must be LAID: of those that are not in the BEGINNING each without LAYING which"
                + " (no ANSWER that LAYS it being taken) a LINE that is THERE would not be REACHED;");
        tells("a>b!qrstuv;", "needs(0)=0 needs(1)=63 begin(63) needs(1)=0 begin(31) needs(1)=32 begin(32) needs(1)=31");
        // no guard asks for it
        tells("a>b!q;", "needs(1)=1 begin(1) needs(1)=0");
        tells("a>b!q;a>b!r;", "needs(1)=0");
        tells("a>b!qr;a>b!rs;", "needs(1)=2");
        tells("a>a!v;a>b?v;", "needs(1)=32 needs(0)=0 begin(32) needs(1)=0");
        tells("a>a!q;a>a!r;a>b?q|r;b>c?qr;", "needs(1)=0 needs(2)=3 begin(1) needs(1)=0 needs(2)=2");
        // in the beginning, taken away and laid again
        tells("a>b!Q;b>c!q;c>d?q;", "needs(2)=1 begin(1) needs(2)=0 needs(3)=0");
        tells("a>a!Q;a>b?Q;", "begin(1) needs(1)=0");
        // by a longer way without it
        tells("a>b!q;a>c;c>d;d>b;", "needs(1)=0 cut(2,1) needs(1)=1 undo() needs(1)=0");
        tells("a>b!q;a>b;", "cut(1,1) needs(1)=1");
        tells(LONG, "needs(15)=63 needs(14)=0");
        says(p, "NONE: it is not REACHED.");
        tells("a>b?q;c>a!r;", "needs(1)=NONE needs(2)=NONE begin(1) needs(1)=0 cut(0,1) needs(1)=NONE");
        says(p, "UNKNOWN.");
        refuses("", "", "needs(0)=UNKNOWN");
        refuses(STORY, DEEDS, "needs(-1)=UNKNOWN needs(4)=UNKNOWN needs(15)=UNKNOWN needs(16)=UNKNOWN needs(LOW)=UNKNOWN"
                + " needs(HIGH)=UNKNOWN");
    }

    private void promise18() {
        String p = "Promise 18";
        says(p, "The ANSWER that is number i (0 on, rising) of those without which, each by itself, a LINE that is THERE would"
                + " not be REACHED;");
        tells("a>b;c>d;b>c;", "must(3,0)=0 must(3,1)=1 must(3,2)=2 must(3,3)=NONE must(2,0)=0 must(2,1)=2 must(2,2)=NONE");
        tells("a>b;a>b;b>c;", "must(2,0)=2 must(2,1)=NONE must(1,0)=NONE cut(0,1) must(2,0)=1 must(2,1)=2 must(2,2)=NONE");
        tells("a>a!q;a>b?q;", "must(1,0)=0 must(1,1)=1 must(1,2)=NONE begin(1) must(1,0)=1 must(1,1)=NONE");
        // by a longer way without it
        tells("a>b;a>c;c>b;b>d;", "must(3,0)=3 must(3,1)=NONE");
        tells(times("a>a;", 31) + "a>b;", "must(1,0)=31 must(1,1)=NONE must(0,0)=NONE");
        tells(LONG, "must(15,0)=0 must(15,13)=13 must(15,19)=19 must(15,20)=20 must(15,21)=NONE must(14,13)=13 must(14,14)=NONE");
        tells("a>b;" + times("b>b;", 31), "must(1,0)=0 must(1,1)=NONE must(0,0)=NONE needs(1)=0");
        says(p, "NONE: not so many, or it is not REACHED.");
        tells("a>b;c>a;", "must(0,0)=NONE must(0,HIGH)=NONE must(1,0)=0 must(1,1)=NONE must(1,HIGH)=NONE must(2,0)=NONE cut(0,1)"
                + " must(1,0)=NONE");
        says(p, "UNKNOWN, OUTSIDE: i below 0.");
        refuses("", "", "must(0,0)=UNKNOWN must(0,-1)=UNKNOWN");
        refuses(STORY, DEEDS, "must(-1,0)=UNKNOWN must(4,0)=UNKNOWN must(16,0)=UNKNOWN must(LOW,0)=UNKNOWN must(HIGH,0)=UNKNOWN"
                + " must(4,-1)=UNKNOWN must(0,-1)=OUTSIDE must(2,-1)=OUTSIDE must(3,-1)=OUTSIDE must(1,LOW)=OUTSIDE");
    }

    private void promise19() {
        String p = "Promise 19";
        says(p, "The fewest ANSWERS of a LOOP from a REACHED STATE of a LINE that is THERE;");
        tells("a>b;b>c;c>a;b>b;", "loop(0)=3 loop(1)=1 loop(2)=3 cut(3,1) loop(1)=3");
        // of several states of the line that with the shortest one
        tells("a>b!q;b>a?q;a>b!r;b>b?rQ;", "loop(1)=1 loop(0)=2 cut(3,1) loop(1)=2");
        tells("a>b;b>a;b>c;c>b;c>d;d>a;", "loop(0)=2 loop(1)=2 loop(2)=2 loop(3)=4");
        tells("p>p;", "loop(15)=1");
        tells(RING, "loop(0)=1024 loop(7)=1024 loop(15)=1024");
        tells(counter("a>a", 1) + "a>a?qrstuv!QRSTUV;", "loop(0)=64 cut(6,1) loop(0)=NONE");
        // a loop that is come to by other marks than those of the beginning
        tells("a>b!q;b>c;c>b?q;", "loop(1)=2 loop(2)=2 loop(0)=NONE");
        says(p, "NONE: there is none.");
        tells("a>b;b>c;", "loop(0)=NONE loop(1)=NONE loop(2)=NONE");
        tells("a>b;c>c;", "loop(2)=NONE");
        tells("a>a?q;", "loop(0)=NONE begin(1) loop(0)=1 cut(0,1) loop(0)=NONE");
        tells("a>b;b>a;b.;", "loop(0)=NONE loop(1)=NONE");
        tells(LONG, "loop(0)=NONE loop(15)=NONE");
        says(p, "UNKNOWN.");
        refuses("", "", "loop(0)=UNKNOWN");
        refuses(STORY, DEEDS, "loop(-1)=UNKNOWN loop(4)=UNKNOWN loop(15)=UNKNOWN loop(16)=UNKNOWN loop(LOW)=UNKNOWN"
                + " loop(HIGH)=UNKNOWN");
    }

    private void promise20() {
        String p = "Promise 20";
        says(p, "How an ANSWER is: 0 OPEN in no REACHED STATE, 1 in some of its LINE FROM, 2 in all of these (1 or more).");
        tells("a>b!q;a>b;b>c?q;b>c?qQ;b>c;b>c?q|Q;", "use(0)=2 use(1)=2 use(2)=1 use(3)=0 use(4)=2 use(5)=2");
        // one state alone: none or all
        tells("a>b?q;", "use(0)=0 begin(1) use(0)=2");
        // its line is not reached, is an ending, it is cut
        tells("a>b;c>a;", "use(1)=0");
        tells("a>b;b.;b>a;", "use(1)=0");
        tells("a>b;b>a;", "use(0)=2 cut(0,1) use(0)=0 use(1)=0 cut(0,0) use(0)=2 use(1)=2 cut(1,1) use(1)=0");
        tells(LAYING + "a>b?qrstuv;a>b?Q|R|S;", "use(6)=1 use(7)=1 use(0)=2 begin(63) use(6)=2 use(7)=0");
        tells(times("a>b;", 31) + "a>c?q;", "use(30)=2 use(31)=0 begin(1) use(31)=2");
        tells(RING, "use(0)=2 use(14)=2 use(15)=1 use(20)=1 use(21)=1");
        says(p, "UNKNOWN.");
        refuses("", "", "use(0)=UNKNOWN");
        refuses(STORY, DEEDS, "use(-1)=UNKNOWN use(5)=UNKNOWN use(31)=UNKNOWN use(32)=UNKNOWN use(LOW)=UNKNOWN use(HIGH)=UNKNOWN");
        tells(times("a>b;", 32), "use(31)=2 use(32)=UNKNOWN");
    }

    // ---- promises 21 and 22

    private void promise21() {
        String p = "Promise 21";
        says(p, "A MARK: what = 0 how many ANSWERS name it in their GUARDS, 1 in their EFFECTS,");
        tells("a>b?q|Q|qQ;a>b?r!q;a>b!Q;a>b;", "mark(0,0)=1 mark(0,1)=2 mark(1,0)=1 mark(1,1)=0 mark(5,0)=0 mark(5,1)=0");
        tells("a>b?r|s|v;a>b?r|s|V;", "mark(1,0)=2 mark(2,0)=2 mark(5,0)=2 cut(0,1) mark(5,0)=2");
        tells(times("a>b?v;", 32), "mark(5,0)=32 mark(5,1)=0 mark(4,0)=0");
        tells(times("a>b!Q;", 32), "mark(0,1)=32 mark(0,0)=0 mark(1,1)=0");
        says(p, "2 whether it is in some REACHED STATE (1, 0),");
        tells("a>b!q;", "mark(0,2)=1 mark(5,2)=0 begin(32) mark(5,2)=1 cut(0,1) mark(0,2)=0");
        tells("a>b!Q;", "mark(0,2)=0 begin(1) mark(0,2)=1");
        tells("a>b?r!q;", "mark(0,2)=0 mark(1,2)=0 begin(2) mark(0,2)=1 mark(1,2)=1");
        says(p, "3 whether it is asked for, but changes nothing (1: without it in any GUARD, wanted or barred, just the same STATES"
                + " were REACHED; 0).");
        // not asked for
        tells("a>b!q;", "mark(0,3)=0 mark(5,3)=0");
        tells("a>b?q;", "mark(0,3)=0 begin(1) mark(0,3)=1");
        tells("a>b?Q;", "mark(0,3)=1 begin(1) mark(0,3)=0");
        tells("a>b?q|Q;", "mark(0,3)=1 begin(1) mark(0,3)=1");
        // another answer leads to the same state
        tells("a>b?q;a>b;", "mark(0,3)=1 cut(1,1) mark(0,3)=0");
        tells("a>b?q!r;a>b;", "mark(0,3)=0");
        // without it a guard that contradicted itself does so no more, if nothing else does
        tells("a>b?qQ;", "mark(0,3)=0");
        tells("a>b?qQr;", "mark(0,3)=1 mark(1,3)=1 begin(2) mark(0,3)=0 mark(1,3)=1");
        tells("a>b?qQ|r;", "mark(0,3)=0 mark(1,3)=0");
        // asked for where no talk comes to
        tells("a.;a>b?q;", "mark(0,3)=1");
        tells("a>b;c>d?q;", "mark(0,3)=1");
        tells("a>b?q;", "cut(0,1) mark(0,3)=1");
        // what is reached behind the newly reached counts, too; a state is a line with its marks
        tells("a>a!q;a>b;b>a?r;", "mark(1,3)=1");
        tells("a>b!q;b>c?q;c>a!Q;", "mark(0,3)=1");
        tells("a>b;a>b!q;b>c?q;", "mark(0,3)=0");
        tells("a>a!v;a>b?v;a>c?V;", "mark(5,3)=0");
        says(p, "UNKNOWN, OUTSIDE.");
        refuses("", "", "mark(0,0)=UNKNOWN mark(0,4)=UNKNOWN mark(6,0)=UNKNOWN");
        refuses(STORY, DEEDS, "mark(-1,0)=UNKNOWN mark(6,0)=UNKNOWN mark(6,4)=UNKNOWN mark(LOW,0)=UNKNOWN mark(HIGH,0)=UNKNOWN"
                + " mark(0,4)=OUTSIDE mark(0,-1)=OUTSIDE mark(5,4)=OUTSIDE mark(0,LOW)=OUTSIDE mark(0,HIGH)=OUTSIDE");
        tells("a.;", "mark(0,0)=0 mark(5,3)=0 mark(6,0)=UNKNOWN");
    }

    private void promise22() {
        String p = "Promise 22";
        says(p, "Of the whole TALK: what = 0 how many STATES are REACHED, 1 the SET of LINES that are THERE and not REACHED,");
        tells("a.;", "whole(0)=1 whole(1)=0");
        tells("b>b;a>p?q;", "whole(0)=1 whole(1)=32769 begin(1) whole(0)=1 whole(1)=32769");
        tells("a>b;", "whole(0)=2 whole(1)=0 cut(0,1) whole(0)=1 whole(1)=2");
        tells(RING, "whole(0)=1024 whole(1)=0 cut(0,1) whole(0)=1 whole(1)=65534");
        tells(LONG, "whole(0)=961 whole(1)=0 cut(20,1) whole(0)=960 whole(1)=32768 begin(63) whole(0)=15 whole(1)=32768");
        says(p, "2 of LINES with STUCK STATES, 3 with LOST ones,");
        tells("a.;", "whole(2)=0 whole(3)=0");
        tells("a>p;", "whole(2)=32768 whole(3)=32769");
        tells("a>b;a>p;", "whole(2)=32770 whole(3)=32771");
        tells("a>b;a>c;b>d;c.;", "whole(2)=8 whole(3)=10");
        tells(RING, "whole(2)=0 whole(3)=65535 cut(21,1) whole(2)=32768 line(15,3)=1");
        tells("a>b;a>c;c.;", "whole(2)=2 whole(3)=2 cut(1,1) whole(3)=3 whole(2)=2");
        tells("a>a;", "whole(2)=0 whole(3)=1");
        says(p, "4 of LINES that have a LOOP from a REACHED STATE of theirs,");
        tells("a>b;b>b;c>c;", "whole(4)=2 cut(1,1) whole(4)=0");
        tells("a.;", "whole(4)=0");
        tells("p>p;", "whole(4)=32768");
        tells("a>b;b>c;c>b;c>d;d>e;e>d;", "whole(4)=30");
        // two ways to one state are no loop
        tells("a>b;a>c;c>b;", "whole(4)=0");
        tells("a>b;a>c;c>d;d>b;", "whole(4)=0");
        tells("a>b;a>c;b>d;", "whole(4)=0");
        // asked again of a greater talk, and of a smaller one
        Tried t = told("a.;", "whole(4)=0");
        put(t, "a>b;b>c;c>b;c>d;");
        expect(t, "talk()=4 whole(4)=6 loop(1)=2 cut(2,1) whole(4)=0 undo() whole(4)=6");
        put(t, "a>b;b>a;");
        expect(t, "talk()=2 whole(4)=3 cut(1,1) whole(4)=0");
        tells(RING, "whole(4)=65535 cut(21,1) whole(4)=0");
        says(p, "5 the most ANSWERS that a REACHED STATE has OPEN,");
        tells("a.;a>b;", "whole(5)=0");
        tells("a>b;b>a;b>b;c>a;c>b;c>c;", "whole(5)=2 cut(1,1) whole(5)=1 cut(0,1) whole(5)=0");
        tells(times("a>a;", 32), "whole(5)=32");
        // not all in the same state
        tells("a>a!q;a>b?q;a>b?Q;a>b?q;a>b?Q;a>b?q;", "whole(5)=4");
        tells(RING, "whole(5)=1");
        says(p, "6 how many REACHED STATES are at ENDINGS,");
        tells("a>b?q;b.;", "whole(6)=0 begin(1) whole(6)=1");
        tells("a.;b.;", "whole(6)=1");
        tells(LAYING + "a>b;b.;", "whole(6)=64 begin(63) whole(6)=1");
        tells("a>b!q;a>b;a>c;b.;c.;d.;", "whole(6)=3");
        says(p, "7 the greatest of the fewest ANSWERS to any REACHED STATE.");
        tells("a.;a>b;", "whole(7)=0");
        tells("a>b;b>c;a>c;", "whole(7)=1 cut(2,1) whole(7)=2");
        tells(LAYING, "whole(7)=6 begin(63) whole(7)=0 begin(1) whole(7)=5");
        tells(RING, "whole(7)=1023");
        tells(LONG, "whole(7)=960");
        says(p, "UNKNOWN (no TALK), OUTSIDE.");
        refuses("", "", "whole(0)=UNKNOWN whole(7)=UNKNOWN whole(8)=UNKNOWN whole(-1)=UNKNOWN");
        refuses(STORY, DEEDS, "whole(8)=OUTSIDE whole(-1)=OUTSIDE whole(LOW)=OUTSIDE whole(HIGH)=OUTSIDE");
    }

    // ---- promise 23

    private void promise23Numbers() {
        String p = "Promise 23";
        says(p, "How many ROWS of just n ANSWERS (0 to 80) there are to STATES of a LINE that is THERE.");
        tells("a>b;c>a;", "rows(0,0)=1 rows(1,0)=0 rows(2,0)=0 rows(0,1)=0 rows(1,1)=1 rows(1,2)=0 rows(1,80)=0 rows(2,80)=0");
        tells("a>a;", "rows(0,0)=1 rows(0,1)=1 rows(0,79)=1 rows(0,80)=1 rows(0,81)=OUTSIDE");
        tells("a>b;b>a;", "rows(0,79)=0 rows(0,80)=1 rows(1,79)=1 rows(1,80)=0");
        // just n, to all states of the line together
        tells("a>b!q;a>b;a>b!q;a>c;c>b;", "rows(1,1)=3 rows(1,2)=1 rows(1,3)=0");
        tells("a>a;a>b;b>a!q;", "rows(0,80)=37889062373143906 rows(0,2)=2 rows(0,3)=3 rows(0,4)=5");
        tells(times("a>a;", 32), "rows(0,1)=32 rows(0,12)=1152921504606846976 rows(0,13)=FULL");
        tells(RING, "rows(15,15)=1 rows(15,16)=0 rows(15,31)=1 rows(0,80)=1 rows(15,79)=1 rows(15,80)=0");
        // from the beginning, not from here; cut answers are in none
        tells("a>b;b>a;b>b;", "take(0) rows(1,1)=1 rows(1,2)=1 rows(0,2)=1 cut(2,1) rows(1,2)=0 cut(0,1) rows(1,1)=0 rows(0,0)=1");
    }

    private void promise23Refusals() {
        String p = "Promise 23";
        says(p, "UNKNOWN, OUTSIDE;");
        refuses("", "", "rows(0,0)=UNKNOWN rows(0,81)=UNKNOWN rows(0,-1)=UNKNOWN");
        refuses(STORY, DEEDS, "rows(-1,0)=UNKNOWN rows(4,0)=UNKNOWN rows(15,0)=UNKNOWN rows(16,0)=UNKNOWN rows(LOW,0)=UNKNOWN"
                + " rows(HIGH,0)=UNKNOWN rows(4,81)=UNKNOWN rows(4,-1)=UNKNOWN rows(0,-1)=OUTSIDE rows(0,81)=OUTSIDE"
                + " rows(3,81)=OUTSIDE rows(0,LOW)=OUTSIDE rows(0,HIGH)=OUTSIDE");
        says(p, "FULL: for some k from 0 to n there are more than 9223372036854775807 ROWS of just k ANSWERS to one and the same STATE,");
        refuses("a>a;a>a;b.;", "", "rows(0,63)=FULL rows(0,80)=FULL rows(1,63)=FULL");
        // one more than the greatest number, and just that
        tells("a>a;a>a;", "rows(0,62)=4611686018427387904 rows(0,63)=FULL rows(0,64)=FULL rows(0,80)=FULL");
        tells("a>b;b>b;b>b;a>c;c>b;c>c;", "rows(1,62)=4611686018427387903 rows(1,63)=9223372036854775807 rows(1,64)=FULL"
                + " rows(2,63)=1 rows(2,64)=FULL rows(0,63)=0 rows(0,64)=FULL");
        // to any state, also one of another line
        tells("a>a;a>a;b>a;", "rows(1,62)=0 rows(1,63)=FULL");
        tells("a>b;b>b;b>b;b>c;", "rows(2,63)=2305843009213693952 rows(2,64)=FULL");
        // for a k below n, though there are no rows of just n
        tells(counter("a>a", 2), "rows(0,62)=4611686018427387904 rows(0,63)=FULL rows(0,64)=FULL rows(0,80)=FULL cut(11,1)"
                + " rows(0,63)=4611686018427387904 rows(0,64)=0 rows(0,80)=0 cut(11,0) rows(0,64)=FULL");
        says(p, "or this number itself is more.");
        // no state has more, two of them together have one more
        tells("a>b!q;a>b;b>b;b>b;", "rows(1,62)=4611686018427387904 rows(1,63)=FULL rows(0,63)=0 rows(0,64)=FULL");
        // and just the greatest number
        String two = "a>b;b>b;b>b;a>c;c>b;c>c;a>b!q;a>b!q;";
        tells(two, "rows(1,62)=9223372036854775807 rows(2,62)=1 rows(1,63)=FULL");
        tells(two + "a>b!r;", "rows(1,62)=FULL rows(2,62)=1 rows(1,61)=5764607523034234879");
        // five states, each below, whose sum goes round to a number above 0
        tells("a>b;a>b;a>b!q;a>b!q;a>b!r;a>b!r;a>b!s;a>b!s;a>b!t;a>b!t;b>b;b>b;", "rows(1,62)=FULL rows(0,62)=0"
                + " rows(1,59)=2882303761517117440");
        refuses("a>b!q;a>b;b>b;b>b;", "", "rows(1,63)=FULL");
    }

    private void all() {
        reached();
        stuckAndLost();
        mostWays();
        promise14();
        promise15();
        promise16();
        promise17();
        promise18();
        promise19();
        promise20();
        promise21();
        promise22();
        promise23Numbers();
        promise23Refusals();
        covers(THREE, "Promise 14", "Promise 15", "Promise 16", "Promise 17", "Promise 18", "Promise 19", "Promise 20", "Promise 21",
                "Promise 22", "Promise 23");
        end();
    }

    public static void main(String[] args) {
        new ReachSentences().all();
    }
}
