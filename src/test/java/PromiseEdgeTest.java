/** The edges of the promises: each sentence under a promise's heading has a test of its own here. */
public final class PromiseEdgeTest {
    private static final int[] BELOW_0 = {Integer.MIN_VALUE, Integer.MIN_VALUE + 1, -256, -8, -1};
    private static final int[] NO_GRADES = {Integer.MIN_VALUE, -31, -1, 0, 2, 29, 31, 32, 33, 62, 256, Integer.MAX_VALUE};
    private static final String TEXT = "e0=A/3;e2=H+B/7;g1A1-9B5-5r024q0<2q3<7;g30<1H2-4r7;";

    public static void main(String[] args) {
        newObject();
        signCounts();
        signBytes();
        signRange();
        signMeaning();
        readUsesUp();
        readCounts();
        readWrong();
        spanEnds();
        spanIndex();
        limitWithoutOne();
        limitIndex();
        equivalentEnds();
        equivalentLowestTerms();
        equivalentIndex();
        equivalentTurn();
        shareAtHand();
        shareIndex();
        shareRange();
        valueOfShares();
        valueIndex();
        valueTurn();
        fitsElements();
        fitsKinds();
        fitsIndex();
        holdsIndex();
        ringCounts();
        ringIndex();
        routeCounts();
        routeIndex();
        differenceCounts();
        differenceIndex();
        writeRow();
        writeIndex();
        atBytes();
        atWithoutPrint();
        atIndex();
        clearTape();
        clearForgets();
        clearLeavesThePrint();
        Check.end();
    }

    private static Object share(GradeTexts x, int element, int v) {
        x.share(element, v);
        return "nothing";
    }

    /** Answers that tell whether an object with TEXT is as it was; some 60 calls. */
    private static String state(GradeTexts x) {
        StringBuilder text = new StringBuilder();
        for (int element = 0; element < 8; element += 7) {
            text.append(Check.span(x, 1, element)).append(" ").append(Check.span(x, 30, element)).append(" ");
        }
        for (int kind = 0; kind < 4; kind += 3) {
            text.append(x.limit(1, kind)).append(" ").append(x.limit(30, kind)).append(" ");
        }
        text.append(Check.value(x, 0)).append(" ").append(Check.value(x, 2)).append(" ").append(x.fits(1)).append(" ");
        text.append(Check.routes(x, 1)).append(" ").append(Check.routes(x, 30)).append(" ");
        return text.append(x.ring(0)).append(" ").append(Check.print(x)).toString();
    }

    private static GradeTexts full() {
        GradeTexts x = Check.of(TEXT);
        x.share(0, 5);
        x.share(1, 5);
        x.share(7, 3);
        x.write(30);
        return x;
    }

    private static void newObject() {
        Check.sentence("GradeTexts(): No grades, no formulas");
        GradeTexts x = new GradeTexts();
        for (int grade = 0; grade <= 31; grade++) {
            int g = grade;
            Check.index("span " + g, () -> x.span(g, 0, 0));
            Check.index("limit " + g, () -> x.limit(g, 0));
            Check.index("equivalent " + g, () -> x.equivalent(g, 0, 0, 0));
            Check.index("fits " + g, () -> x.fits(g));
            Check.index("holds " + g, () -> x.holds(g, g));
            Check.index("route " + g, () -> x.route(g, 0));
            Check.index("difference " + g, () -> x.difference(g, g, 0));
            Check.index("write " + g, () -> x.write(g));
        }
        for (int kind = 0; kind < 4; kind++) {
            int k = kind;
            Check.turn("value " + k, () -> x.value(k, 0));
        }
        Check.same("ring", x.ring(0), -1);
        Check.same("the tape", x.read(), 0);
    }

    private static void signCounts() {
        Check.sentence("n bytes (1 .. 8) more on the tape: how many");
        GradeTexts x = new GradeTexts();
        int length = 0;
        for (int n = 1; n <= 8; n++) {
            length += n;
            Check.same("n " + n, x.sign(0x2020202020202020L, n), length);
        }
        Check.same("all blanks", x.read(), 0);
        Check.same("a tape used up", x.sign(' ', 1), 1);
    }

    private static void signBytes() {
        Check.sentence("the lowest n, the highest of these first");
        Check.same("1", answerOf(0x7878787878787867L, 1), -2);
        Check.same("2", answerOf(0x7878787878786731L, 2), -3);
        Check.same("3", answerOf(0x787878787867313bL, 3), 1);
        Check.same("4", answerOf(0x786767676733303bL, 4), 1);
        Check.same("7", answerOf(0x7865303d412f323bL, 7), 0);
        Check.same("8", answerOf(0x65303d412f31393bL, 8), 0);
        Check.same("8, the first byte wrong", answerOf(0x78303d412f31393bL, 8), -1);
        Check.same("8, the last byte wrong", answerOf(0x65303d412f313978L, 8), -8);
        Check.same("bytes above 127", answerOf(0xffffffffffff673bL, 2), -2);
        Check.same("a byte 255", answerOf(-1L, 1), -1);
        Check.same("a byte 231, 'g' with the highest bit", answerOf(0x00000000e7313bL, 3), -1);
        Check.same("a byte 0", answerOf(0x67L << 8, 2), -2);
    }

    private static int answerOf(long bytes, int n) {
        GradeTexts x = new GradeTexts();
        x.sign(bytes, n);
        return x.read();
    }

    private static void signRange() {
        Check.sentence("Range: n");
        GradeTexts x = new GradeTexts();
        for (int n : new int[] {Integer.MIN_VALUE, -8, -1, 0, 9, 16, 257, 264, 400, Integer.MAX_VALUE}) {
            Check.range("n " + n, () -> x.sign(0x2020202020202020L, n));
        }
        Check.same("nothing was taken", x.sign(' ', 1), 1);
    }

    private static void signMeaning() {
        Check.sentence("meaning: there would be more than 400");
        for (int n = 1; n <= 8; n++) {
            int bytes = n;
            GradeTexts x = new GradeTexts();
            Check.tell(x, " ".repeat(401 - n));
            Check.meaning(n + " bytes more than " + (401 - n), () -> x.sign(0x7878787878787878L, bytes));
            if (n > 1) {
                Check.same("a byte less", x.sign(0x2020202020202020L, n - 1), 400);
            }
            Check.meaning("a byte more than 400", () -> x.sign('x', 1));
            Check.same("nothing of a refused call", x.read(), 0);
            Check.same("room again", x.sign(0x2020202020202020L, n), n);
        }
    }

    private static void readUsesUp() {
        Check.sentence("Reads the tape (used up)");
        GradeTexts x = new GradeTexts();
        Check.same("an empty tape", x.read(), 0);
        Check.same("a right text", Check.read(x, "g1;g2;"), 2);
        Check.same("used up by a right text", x.sign('g', 1), 1);
        Check.same("used up: the new byte alone", x.read(), -2);
        Check.same("used up by a wrong text", x.sign('1', 1), 1);
        Check.same("the byte is not put behind the old one", x.read(), -1);
        Check.same("still the grades", x.fits(2), -1);
        Check.same("used up: nothing", x.read(), 0);
        Check.index("an empty text is right", () -> x.fits(2));
    }

    private static void readCounts() {
        Check.sentence("how many grades");
        StringBuilder text = new StringBuilder();
        for (int grade = 0; grade <= 30; grade++) {
            if (grade > 0) {
                text.append("g").append(grade).append(";");
            }
            Check.right(text.toString(), grade);
        }
        Check.right("e0=A;e1=A;e2=A;e3=A;", 0);
        Check.right("e0=A;g1;e1=A;g2;", 2);
    }

    private static void readWrong() {
        Check.sentence("or -1 less the place where it is wrong (all stays as it was)");
        GradeTexts x = full();
        String before = state(x);
        Check.same("wrong at 0", Check.read(x, "x"), -1);
        Check.same("wrong at its end", Check.read(x, "e0=H;e1=A;g30A7-7;g2;g1<2H1-1r1q0<1"), -36);
        Check.same("wrong at 399", Check.read(x, "g1H1-1;" + " ".repeat(392) + "x"), -400);
        Check.same("all", state(x), before);
        Check.turn("no formula of a wrong text", () -> x.value(1, 0));
        Check.index("no grade of a wrong text", () -> x.fits(2));
    }

    private static void spanEnds() {
        Check.sentence("A grade's span: end 0 low, 1 high");
        GradeTexts x = Check.of("g1A3-4H0-100000;");
        Check.same("low", x.span(1, 0, 0), 3);
        Check.same("high", x.span(1, 0, 1), 4);
        Check.same("the least low", x.span(1, 7, 0), 0);
        Check.same("the greatest high", x.span(1, 7, 1), 100000);
    }

    private static void spanIndex() {
        Check.sentence("Index: no such grade (told), element or end");
        GradeTexts x = full();
        String before = state(x);
        for (int no : NO_GRADES) {
            Check.index("grade " + no, () -> x.span(no, 0, 0));
        }
        for (int no : BELOW_0) {
            Check.index("element " + no, () -> x.span(1, no, 0));
            Check.index("end " + no, () -> x.span(1, 0, no));
        }
        Check.index("element 8", () -> x.span(1, 8, 0));
        Check.index("element far above", () -> x.span(1, Integer.MAX_VALUE, 0));
        Check.index("end 2", () -> x.span(1, 0, 2));
        Check.index("end far above", () -> x.span(1, 0, Integer.MAX_VALUE));
        Check.same("all stays", state(x), before);
        GradeTexts y = Check.of("g1<2;");
        Check.index("a parent that is not told", () -> y.span(2, 0, 0));
    }

    private static void limitWithoutOne() {
        Check.sentence("A grade's limit of a kind; -1 without one");
        GradeTexts x = Check.of("g1q0<0q3<999999;");
        Check.same("limits", x.limit(1, 0) + " " + x.limit(1, 1) + " " + x.limit(1, 2) + " " + x.limit(1, 3), "0 -1 -1 999999");
        Check.same("none at all", Check.of("e0=A;g1;").limit(1, 0), -1);
    }

    private static void limitIndex() {
        Check.sentence("Index: no such grade or kind");
        GradeTexts x = full();
        for (int no : NO_GRADES) {
            Check.index("grade " + no, () -> x.limit(no, 0));
        }
        for (int no : BELOW_0) {
            Check.index("kind " + no, () -> x.limit(1, no));
        }
        Check.index("kind 4", () -> x.limit(1, 4));
        Check.index("kind far above", () -> x.limit(1, Integer.MAX_VALUE));
        Check.same("kinds need no formula", x.limit(1, 3), 7);
    }

    private static void equivalentEnds() {
        Check.sentence("The equivalent of a kind at an end of a grade's spans (0 the lows, 1 the highs)");
        GradeTexts x = Check.of("e0=A;e3=A/2+H/3;g1A0-7H1-100000;g2;");
        Check.same("lows", Check.equivalent(x, 1, 0, 0) + " " + Check.equivalent(x, 1, 3, 0), "0/1 1/3");
        Check.same("highs", Check.equivalent(x, 1, 0, 1) + " " + Check.equivalent(x, 1, 3, 1), "7/1 200021/6");
        Check.same("nothing told", Check.equivalent(x, 2, 3, 0) + " " + Check.equivalent(x, 2, 3, 1), "0/1 250000/3");
        GradeTexts y = Check.of("e0=A+B+C+D+E+F+G+H;g1;");
        Check.same("the greatest one", Check.equivalent(y, 1, 0, 1), "800000/1");
    }

    private static void equivalentLowestTerms() {
        Check.sentence("in lowest terms: part 0 the upper, 1 the lower number");
        Check.same("0 is 0/1", Check.equivalent(Check.of("e0=A/20;g1;"), 1, 0, 0), "0/1");
        Check.same("20/20", Check.equivalent(Check.of("e0=A/20;g1A20-20;"), 1, 0, 0), "1/1");
        Check.same("15/20", Check.equivalent(Check.of("e0=A/20;g1A15-15;"), 1, 0, 0), "3/4");
        Check.same("1/6 and 1/3", Check.equivalent(Check.of("e0=A/6+B/3;g1A1-1B1-1;"), 1, 0, 0), "1/2");
        Check.same("1/2 and 1/3 and 1/6", Check.equivalent(Check.of("e0=A/2+B/3+C/6;g1A1-1B1-1C1-1;"), 1, 0, 0), "1/1");
        String ones = "g1A1-1B1-1C1-1D1-1E1-1F1-1G1-1H1-1;";
        GradeTexts x = Check.of("e0=A/19+B/17+C/13+D/11+E/7+F/9+G/16+H/5;" + ones);
        Check.same("the greatest lower number", Check.equivalent(x, 1, 0, 0), "185245967/232792560");
        GradeTexts y = Check.of("e0=A/19+B/17+C/13+D/11+E/7+F/9+G/16+H/5;g1A0-99999;");
        Check.same("an upper number far above 2 ** 32", Check.equivalent(y, 1, 0, 1), "231557305597/2909907");
    }

    private static void equivalentIndex() {
        Check.sentence("Index: no such grade, kind, end or part");
        GradeTexts x = full();
        for (int no : NO_GRADES) {
            Check.index("grade " + no, () -> x.equivalent(no, 0, 0, 0));
        }
        for (int no : BELOW_0) {
            Check.index("kind " + no, () -> x.equivalent(1, no, 0, 0));
            Check.index("end " + no, () -> x.equivalent(1, 0, no, 0));
            Check.index("part " + no, () -> x.equivalent(1, 0, 0, no));
        }
        for (int no : new int[] {4, 8, Integer.MAX_VALUE}) {
            Check.index("kind " + no, () -> x.equivalent(1, no, 0, 0));
        }
        for (int no : new int[] {2, 3, Integer.MAX_VALUE}) {
            Check.index("end " + no, () -> x.equivalent(1, 0, no, 0));
            Check.index("part " + no, () -> x.equivalent(1, 0, 0, no));
        }
    }

    private static void equivalentTurn() {
        Check.sentence("turn: the kind has no formula");
        GradeTexts x = full();
        for (int end = 0; end < 2; end++) {
            int e = end;
            Check.turn("kind 1", () -> x.equivalent(1, 1, e, 0));
            Check.turn("kind 3, of which there is a limit", () -> x.equivalent(1, 3, e, 1));
        }
        Check.same("kind 0", Check.equivalent(x, 1, 0, 1), "3/1");
        Check.same("kind 2", Check.equivalent(x, 30, 2, 0), "19/7");
    }

    private static void shareAtHand() {
        Check.sentence("A share of an element at hand (all 0 at first)");
        GradeTexts x = Check.of("e0=A+B+C+D+E+F+G+H;");
        Check.same("at first", Check.value(x, 0), "0/1");
        for (int element = 0; element < 8; element++) {
            x.share(element, 100000);
            Check.same("the most of " + element, Check.value(x, 0), (element + 1) * 100000 + "/1");
        }
        for (int element = 0; element < 8; element++) {
            x.share(element, 0);
            Check.same("the least of " + element, Check.value(x, 0), (7 - element) * 100000 + "/1");
        }
        GradeTexts y = new GradeTexts();
        y.share(0, 7);
        Check.read(y, "e1=A;");
        Check.same("a share ahead of a text", Check.value(y, 1), "7/1");
    }

    private static void shareIndex() {
        Check.sentence("Index: no such element");
        GradeTexts x = full();
        String before = state(x);
        for (int no : BELOW_0) {
            Check.index("element " + no, () -> share(x, no, 1));
            Check.index("element " + no + ", index ahead of range", () -> share(x, no, -1));
        }
        for (int no : new int[] {8, 9, 256, Integer.MAX_VALUE}) {
            Check.index("element " + no, () -> share(x, no, 1));
            Check.index("element " + no + ", index ahead of range", () -> share(x, no, 100001));
        }
        Check.same("all stays", state(x), before);
    }

    private static void shareRange() {
        Check.sentence("range: it (a share is 0 .. 100,000)");
        GradeTexts x = full();
        String before = state(x);
        for (int v : new int[] {Integer.MIN_VALUE, -100000, -1, 100001, 1 << 17, Integer.MAX_VALUE}) {
            Check.range("A " + v, () -> share(x, 0, v));
            Check.range("H " + v, () -> share(x, 7, v));
        }
        Check.same("all stays", state(x), before);
    }

    private static void valueOfShares() {
        Check.sentence("The equivalent of the shares at hand");
        GradeTexts x = Check.of("e0=A/2+B/2;e3=H/20+A;");
        x.share(0, 1);
        Check.same("a half", Check.value(x, 0), "1/2");
        x.share(1, 1);
        Check.same("two halves", Check.value(x, 0), "1/1");
        x.share(7, 100000);
        Check.same("another kind", Check.value(x, 3), "5001/1");
        x.share(7, 99999);
        Check.same("20ths", Check.value(x, 3), "100019/20");
    }

    private static void valueIndex() {
        Check.sentence("Index: no such kind or part");
        GradeTexts x = full();
        for (int no : BELOW_0) {
            Check.index("kind " + no, () -> x.value(no, 0));
            Check.index("part " + no, () -> x.value(0, no));
        }
        for (int no : new int[] {4, 8, Integer.MAX_VALUE}) {
            Check.index("kind " + no, () -> x.value(no, 0));
        }
        for (int no : new int[] {2, 3, Integer.MAX_VALUE}) {
            Check.index("part " + no, () -> x.value(0, no));
            Check.index("part " + no + " ahead of turn", () -> x.value(1, no));
        }
    }

    private static void valueTurn() {
        Check.sentence("turn: likewise");
        GradeTexts x = full();
        Check.turn("kind 1", () -> x.value(1, 0));
        Check.turn("kind 3", () -> x.value(3, 1));
        Check.same("kind 0", Check.value(x, 0), "5/3");
        Check.same("kind 2", Check.value(x, 2), "26/7");
    }

    private static void fitsElements() {
        Check.sentence("The first thing that is not so with the shares at hand: an element outside of its span");
        for (int element = 0; element < 8; element++) {
            GradeTexts x = Check.of("g1" + (char) ('A' + element) + "5-8;");
            Check.same("far below " + element, x.fits(1), element);
            int[] shares = {4, 5, 8, 9, 100000};
            int[] due = {element, -1, -1, element, element};
            for (int i = 0; i < shares.length; i++) {
                x.share(element, shares[i]);
                Check.same(shares[i] + " of " + element, x.fits(1), due[i]);
            }
        }
        GradeTexts y = Check.of("g1A1-1C1-1H1-1;g2A0-0H100000-100000;");
        Check.same("the first of three", y.fits(1), 0);
        y.share(0, 1);
        Check.same("the first of two", y.fits(1), 2);
        y.share(2, 1);
        Check.same("the last", y.fits(1), 7);
        Check.same("spans 0-0", y.fits(2), 0);
        y.share(0, 0);
        y.share(7, 100000);
        Check.same("spans at both edges", y.fits(2), -1);
    }

    private static void fitsKinds() {
        Check.sentence("else 8 and a kind whose equivalent is above the limit; -1: they fit the grade");
        for (int kind = 0; kind < 4; kind++) {
            GradeTexts x = Check.of("e?=A/3;g1q?<2;g2A0-5q?<1;g3;".replace("?", String.valueOf(kind)));
            x.share(0, 6);
            Check.same("at the limit of " + kind, x.fits(1), -1);
            Check.same("an element ahead of kind " + kind, x.fits(2), 0);
            x.share(0, 7);
            Check.same("a third above the limit of " + kind, x.fits(1), 8 + kind);
            Check.same("no limit of " + kind, x.fits(3), -1);
            x.share(0, 3);
            Check.same("at another limit of " + kind, x.fits(2), -1);
        }
        GradeTexts y = Check.of("e1=A;e3=A;g1q0<0q1<4q2<0q3<3;");
        Check.same("limits 0 without formulas", y.fits(1), -1);
        y.share(0, 4);
        Check.same("the last kind", y.fits(1), 11);
        y.share(0, 5);
        Check.same("the first of two kinds", y.fits(1), 9);
    }

    private static void fitsIndex() {
        Check.sentence("fits, Index: no such grade");
        GradeTexts x = full();
        for (int no : NO_GRADES) {
            Check.index("grade " + no, () -> x.fits(no));
        }
        Check.same("grade 1", x.fits(1), -1);
        Check.same("grade 30", x.fits(30), -1);
    }

    private static void holdsIndex() {
        Check.sentence("holds, Index: no such grades");
        GradeTexts x = full();
        for (int no : NO_GRADES) {
            Check.index("grade " + no, () -> x.holds(no, 1));
            Check.index("other " + no, () -> x.holds(30, no));
            Check.index("both " + no, () -> x.holds(no, no));
        }
    }

    private static void ringCounts() {
        Check.sentence("The k-th grade (0 first, by numbers) that is on a ring; -1 when there are not so many");
        GradeTexts x = Check.of("g30<9;g9<30;g4<4;g2<4;g1;");
        int[] due = {4, 9, 30, -1, -1};
        for (int k = 0; k < due.length; k++) {
            Check.same("ring " + k, x.ring(k), due[k]);
        }
        Check.same("ring far behind", x.ring(Integer.MAX_VALUE), -1);
        Check.same("no ring", Check.of("g1<2;g2;").ring(0), -1);
        Check.same("no grades", new GradeTexts().ring(0), -1);
    }

    private static void ringIndex() {
        Check.sentence("ring, Index: k is below 0");
        for (int k : BELOW_0) {
            Check.index("ring " + k, () -> Check.of("g1<1;").ring(k));
            Check.index("ring " + k + " without grades", () -> new GradeTexts().ring(k));
        }
    }

    private static void routeCounts() {
        Check.sentence("The k-th route (0 first) of a grade; -1 when there are not so many");
        GradeTexts x = Check.of("g1r0257;g2r7;g3;");
        int[] due = {0, 2, 5, 7, -1, -1};
        for (int k = 0; k < due.length; k++) {
            Check.same("route " + k, x.route(1, k), due[k]);
        }
        Check.same("one alone", x.route(2, 0) + " " + x.route(2, 1), "7 -1");
        Check.same("none", x.route(3, 0), -1);
        Check.same("far behind", x.route(1, Integer.MAX_VALUE), -1);
    }

    private static void routeIndex() {
        Check.sentence("route, Index: no such grade, or k is below 0");
        GradeTexts x = full();
        for (int no : NO_GRADES) {
            Check.index("grade " + no, () -> x.route(no, 0));
        }
        for (int k : BELOW_0) {
            Check.index("route " + k, () -> x.route(1, k));
        }
    }

    private static void differenceCounts() {
        Check.sentence("The k-th element (0 first) whose spans are not the same in two grades; -1 when there are not so many");
        StringBuilder row = new StringBuilder("g1;g2");
        for (int count = 0; count <= 8; count++) {
            GradeTexts x = Check.of(row + ";");
            for (int k = 0; k <= 8; k++) {
                Check.same(k + " of " + count, x.difference(1, 2, k), k < count ? k : -1);
                Check.same(k + " of " + count + ", the other way", x.difference(2, 1, k), k < count ? k : -1);
            }
            row.append((char) ('A' + count)).append(count % 2 == 0 ? "1-100000" : "0-99999");
        }
        GradeTexts y = Check.of("g1A0-100000;g2H5-5;g3<2A0-100000;");
        Check.same("told as wide as can be", y.difference(1, 2, 0) + " " + y.difference(1, 2, 1), "7 -1");
        Check.same("the parent's", y.difference(2, 3, 0), -1);
        Check.same("itself", y.difference(2, 2, 0), -1);
        Check.same("far behind", y.difference(1, 2, Integer.MAX_VALUE), -1);
    }

    private static void differenceIndex() {
        Check.sentence("difference, Index: no such grades, or k is below 0");
        GradeTexts x = full();
        for (int no : NO_GRADES) {
            Check.index("a " + no, () -> x.difference(no, 1, 0));
            Check.index("b " + no, () -> x.difference(30, no, 0));
        }
        for (int k : BELOW_0) {
            Check.index("k " + k, () -> x.difference(1, 30, k));
        }
    }

    private static void writeRow() {
        Check.sentence("Prints a grade's row as it was told, without blanks, spans by elements, limits by kinds: how many bytes");
        writes("g1;", 1, "g1;");
        writes("g30<30;", 30, "g30<30;");
        writes("g1<2;", 1, "g1<2;");
        writes("g2A1-2r3q0<4;g1<2;", 1, "g1<2;");
        writes(" g 7 < 8 A 0 - 0 r 0 q 0 < 0 ; ", 7, "g7<8A0-0r0q0<0;");
        writes("g1H1-1G1-1F1-1E1-1D1-1C1-1B1-1A1-1;", 1, "g1A1-1B1-1C1-1D1-1E1-1F1-1G1-1H1-1;");
        writes("g1q3<3q2<2q1<1q0<0;", 1, "g1q0<0q1<1q2<2q3<3;");
        writes("g1r4567;", 1, "g1r4567;");
        for (String number : new String[] {"0", "9", "10", "99", "100", "999", "1000", "9999", "10000", "99999", "100000"}) {
            writes("g1A0-" + number + "q1<" + number + ";", 1, "g1A0-" + number + "q1<" + number + ";");
        }
        StringBuilder longest = new StringBuilder("g30<30");
        for (char element = 'A'; element <= 'H'; element++) {
            longest.append(element).append("100000-100000");
        }
        longest.append("r0123q0<999999q1<999999q2<999999q3<999999;");
        writes(longest.toString(), 30, longest.toString());
    }

    private static void writes(String text, int grade, String row) {
        GradeTexts x = Check.of(text);
        Check.same("write of " + text, x.write(grade), row.length());
        Check.same("print of " + text, Check.print(x), row);
    }

    private static void writeIndex() {
        Check.sentence("write, Index: no such grade");
        GradeTexts x = full();
        for (int no : NO_GRADES) {
            Check.index("grade " + no, () -> x.write(no));
        }
        Check.same("the print stays", Check.print(x), "g30<1H2-4r7;");
    }

    private static void atBytes() {
        Check.sentence("Byte i of the latest print; -1 behind it");
        GradeTexts x = Check.of("g1A1-2;g2;");
        x.write(1);
        Check.same("first", x.at(0), (int) 'g');
        Check.same("last", x.at(6), (int) ';');
        Check.same("behind", x.at(7), -1);
        Check.same("far behind", x.at(160) + " " + x.at(400) + " " + x.at(Integer.MAX_VALUE), "-1 -1 -1");
        x.write(2);
        Check.same("the latest alone", x.at(2) + " " + x.at(3) + " " + x.at(6), (int) ';' + " -1 -1");
    }

    private static void atWithoutPrint() {
        Check.sentence("(and without one)");
        GradeTexts x = new GradeTexts();
        Check.same("a new object", x.at(0) + " " + x.at(Integer.MAX_VALUE), "-1 -1");
        Check.read(x, "g1;");
        Check.index("a refused print", () -> x.write(2));
        Check.same("no print yet", x.at(0), -1);
    }

    private static void atIndex() {
        Check.sentence("at, Index: i is below 0");
        GradeTexts x = full();
        for (int i : BELOW_0) {
            Check.index("at " + i, () -> x.at(i));
            Check.index("at " + i + " without a print", () -> new GradeTexts().at(i));
        }
    }

    private static void clearTape() {
        Check.sentence("Empties the tape");
        GradeTexts x = new GradeTexts();
        x.clear();
        Check.same("a new object", x.read(), 0);
        Check.tell(x, "x".repeat(400));
        x.clear();
        Check.same("a full tape", x.sign(0x2020202020202020L, 8), 8);
        Check.same("nothing old", x.read(), 0);
        Check.tell(x, "g");
        x.clear();
        Check.tell(x, "1;");
        Check.same("no old byte in front", x.read(), -1);
    }

    private static void clearForgets() {
        Check.sentence("forgets grades, formulas and shares at hand");
        GradeTexts x = full();
        x.clear();
        for (int grade = 1; grade <= 30; grade++) {
            int g = grade;
            Check.index("grade " + g, () -> x.span(g, 0, 0));
        }
        for (int kind = 0; kind < 4; kind++) {
            int k = kind;
            Check.turn("formula " + k, () -> x.value(k, 0));
        }
        Check.same("a text again", Check.read(x, "e0=A+B+C+D+E+F+G+H;g1;g30;"), 2);
        Check.same("shares", Check.value(x, 0), "0/1");
        Check.same("nothing of the old grades", x.difference(1, 30, 0) + Check.routes(x, 1) + x.limit(1, 0), "-1-1");
        Check.same("no old span", Check.span(x, 1, 0), "0-100000");
        GradeTexts y = Check.of("g1<1;");
        y.clear();
        Check.same("an old ring", y.ring(0), -1);
        y.clear();
        Check.same("cleared twice", y.read(), 0);
    }

    private static void clearLeavesThePrint() {
        Check.sentence("(the latest print stays)");
        GradeTexts x = full();
        x.clear();
        Check.same("print", Check.print(x), "g30<1H2-4r7;");
        Check.read(x, "g1;");
        Check.same("print with another text", Check.print(x), "g30<1H2-4r7;");
        GradeTexts y = new GradeTexts();
        y.clear();
        Check.same("no print", y.at(0), -1);
    }
}
