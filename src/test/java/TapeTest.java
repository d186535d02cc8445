/** Promises 1 (a new object), 2 (sign), 3 (read, but for the wrong places) and 16 (clear). */
public final class TapeTest {
    public static void main(String[] args) {
        newObject();
        signs();
        signRefusals();
        readTakesThePlace();
        nothingOldComesBack();
        oldBytesDoNotCount();
        wrongTextLeavesAll();
        clears();
        Check.end();
    }

    private static void newObject() {
        GradeTexts x = new GradeTexts();
        for (int grade = -1; grade <= 31; grade++) {
            int g = grade;
            Check.index("write of new " + g, () -> x.write(g));
            Check.index("fits of new " + g, () -> x.fits(g));
        }
        for (int kind = 0; kind < 4; kind++) {
            int k = kind;
            Check.turn("value of new " + k, () -> x.value(k, 0));
        }
        Check.same("ring of new", x.ring(0), -1);
        Check.same("at of new", x.at(0), -1);
        Check.same("first sign", x.sign('g', 1), 1);
    }

    private static void signs() {
        GradeTexts x = new GradeTexts();
        Check.same("lowest byte alone", x.sign(0x7878787878787867L, 1), 1);
        Check.same("highest first", x.sign(0x7878787878313241L, 3), 4);
        Check.same("eight", x.sign(0x302d353b67373b20L, 8), 12);
        Check.same("g12A0-5;g7; ", x.read(), 2);
        Check.same("high", x.span(12, 0, 1), 5);
        Check.same("tape is used up", x.sign(' ', 1), 1);
        Check.same("a byte above 127", Check.read(x, "\u00ff"), -2);
        x.sign(-1L, 8);
        Check.same("bytes of -1", x.read(), -1);
    }

    private static void signRefusals() {
        GradeTexts x = new GradeTexts();
        for (int n : new int[] {0, -1, 9, 10, Integer.MIN_VALUE, Integer.MAX_VALUE}) {
            Check.range("sign of n " + n, () -> x.sign(0L, n));
        }
        Check.tell(x, "g5;" + " ".repeat(392));
        Check.meaning("6 bytes more than 395", () -> x.sign(0L, 6));
        Check.meaning("8 bytes more than 395", () -> x.sign(0L, 8));
        Check.range("range ahead of meaning", () -> x.sign(0L, 9));
        Check.same("5 bytes more than 395", x.sign(0x2020202020L, 5), 400);
        Check.meaning("a byte more than 400", () -> x.sign(' ', 1));
        Check.range("range ahead of meaning, full", () -> x.sign(' ', 0));
        Check.same("a full tape", x.read(), 1);
        Check.same("room again", x.sign(' ', 1), 1);
    }

    private static void readTakesThePlace() {
        GradeTexts x = Check.of("e1=A;g3;g4A1-2r1q1<3;");
        Check.same("another text", Check.read(x, "e2=B;g4B3-4;"), 1);
        Check.index("an old grade", () -> x.span(3, 0, 0));
        Check.same("an old span", x.span(4, 0, 1), 100000);
        Check.same("a new span", x.span(4, 1, 1), 4);
        Check.same("an old route", x.route(4, 0), -1);
        Check.same("an old limit", x.limit(4, 1), -1);
        Check.turn("an old formula", () -> x.value(1, 0));
        Check.same("a new formula", x.value(2, 0), 0);
        Check.same("formulas alone", Check.read(x, "e0=A;"), 0);
        Check.index("no grades", () -> x.span(4, 0, 0));
        Check.same("again a grade", Check.read(x, "g4;"), 1);
        Check.same("blanks alone", Check.read(x, "   "), 0);
        Check.index("no grades behind blanks", () -> x.span(4, 0, 0));
        Check.same("again a grade", Check.read(x, "g4;"), 1);
        Check.same("an empty text", x.read(), 0);
        Check.index("no grades behind an empty text", () -> x.span(4, 0, 0));
    }

    private static void nothingOldComesBack() {
        GradeTexts x = new GradeTexts();
        for (int round = 0; round < 3; round++) {
            Check.read(x, "e0=A;g1<2A1-2r1q0<3;g2B3-4r2q1<4;");
            Check.same("a bare grade", Check.read(x, round == 0 ? "g1;" : round == 1 ? "g1;g2;" : "g2;g1<2;"), round == 0 ? 1 : 2);
            Check.read(x, "g1;g2;e1=H;");
            Check.same("old spans", x.span(1, 0, 1) + " " + x.span(1, 1, 1) + " " + x.span(1, 0, 0), "100000 100000 0");
            Check.same("old routes", x.route(1, 0) + " " + x.route(2, 0), "-1 -1");
            Check.same("old limits", x.limit(1, 0) + " " + x.limit(1, 1), "-1 -1");
            Check.turn("old formulas", () -> x.value(0, 0));
            x.write(1);
            Check.same("old row", Check.print(x), "g1;");
            Check.read(x, "e0=A;g1<1A1-2r1q0<3;");
            x.clear();
            Check.same("an old ring", x.ring(0), -1);
            Check.read(x, "");
            Check.read(x, "g1;");
            Check.same("cleared routes", x.route(1, 0), -1);
            Check.same("cleared limits", x.limit(1, 0), -1);
            Check.same("cleared spans", x.span(1, 0, 1), 100000);
        }
    }

    private static void oldBytesDoNotCount() {
        GradeTexts x = Check.of("g12;g13;");
        Check.same("a digit behind the tape's end", Check.read(x, "g1"), -3);
        Check.read(x, "g1A9;");
        Check.same("a semicolon behind the tape's end", Check.read(x, "g1A0"), -5);
        Check.read(x, "g1;g1;");
        Check.same("a row behind the tape's end", Check.read(x, "g1;"), 1);
        Check.same("a full tape that ends in a number", Check.read(x, " ".repeat(398) + "g1"), -401);
        Check.same("a full tape that ends in blanks", Check.read(x, "g1" + " ".repeat(398)), -401);
        Check.same("a full tape that ends in a row", Check.read(x, " ".repeat(397) + "g1;"), 1);
    }

    private static void wrongTextLeavesAll() {
        GradeTexts x = Check.of("e1=A/3;g4<5A1-2r15q1<3;g5C7-8q0<9;");
        x.share(0, 2);
        Check.same("a wrong text", Check.read(x, "e1=B;e0=A;g4B7-9;g5;g6;x"), -24);
        Check.same("used up", x.sign(' ', 1), 1);
        Check.index("a grade of the wrong text", () -> x.span(6, 0, 0));
        Check.same("span stays", x.span(4, 0, 1), 2);
        Check.same("parent stays", x.span(4, 2, 1), 8);
        Check.same("no span of the wrong text", x.span(4, 1, 0), 0);
        Check.same("routes stay", x.route(4, 1), 5);
        Check.same("limits stay", x.limit(4, 0), 9);
        Check.same("formulas stay", x.value(1, 0) + "/" + x.value(1, 1), "2/3");
        Check.turn("no formula of the wrong text", () -> x.value(0, 0));
        Check.same("twice wrong", Check.read(x, "g"), -3);
        Check.same("span still stays", x.span(4, 0, 1), 2);
        Check.same("a right text again", Check.read(x, "g6;"), 1);
        Check.index("the old ones are gone", () -> x.span(4, 0, 0));
    }

    private static void clears() {
        GradeTexts x = Check.of("e0=A;g1<2A1-9;g2<1r3q0<7;");
        x.share(0, 5);
        x.share(7, 6);
        x.write(1);
        Check.tell(x, "g9;");
        x.clear();
        Check.same("print stays", Check.print(x), "g1<2A1-9;");
        Check.index("grades are forgotten", () -> x.span(1, 0, 0));
        Check.turn("formulas are forgotten", () -> x.value(0, 0));
        Check.same("rings are forgotten", x.ring(0), -1);
        Check.same("the tape is empty", x.sign(' ', 1), 1);
        Check.same("nothing to read", x.read(), 0);
        Check.same("formula and grade again", Check.read(x, "e0=A+H;g1;"), 1);
        Check.same("shares are forgotten", x.value(0, 0), 0);
        Check.same("spans are forgotten", x.span(1, 0, 1), 100000);
        Check.same("routes are forgotten", x.route(1, 0), -1);
        Check.same("limits are forgotten", x.limit(1, 0), -1);
        x.clear();
        x.clear();
        Check.same("print stays again", Check.print(x), "g1<2A1-9;");
    }
}
