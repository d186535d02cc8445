/**
 * The edges of the rules: the sentence on 512 calls under "What it is", and under "Terms" those on where a text is
 * wrong, on rings, on what a grade has from its parents, on holding and on the order of the refusals.
 */
public final class RuleEdgeTest {
    public static void main(String[] args) {
        manySigns();
        manyReads();
        manyRefusals();
        manyPrints();
        firstWrongByte();
        missing();
        numbersNotSo();
        rangeAheadOfDigits();
        toldTwice();
        routesNotRising();
        fifthRoute();
        takesThePlace();
        rings();
        parentsNotTold();
        spansOfParents();
        routesOfParents();
        limitsOfParents();
        holdsSpans();
        holdsLimits();
        orderOfRefusals();
        Check.end();
    }

    private static void manySigns() {
        Check.sentence("An object is used for at most 512 calls after it has been made");
        GradeTexts x = new GradeTexts();
        String text = " ".repeat(380) + "e0=A/3;g1A1-2q0<4;g2<1;";
        text = text.substring(text.length() - 400);
        for (int i = 0; i < 400; i++) {
            Check.same("sign " + i, x.sign(text.charAt(i), 1), i + 1);
        }
        Check.same("call 401", x.read(), 2);
        for (int call = 402; call <= 512; call++) {
            Check.same("call " + call, x.equivalent(2, 0, 1, 1), 3);
        }
    }

    private static void manyReads() {
        GradeTexts x = new GradeTexts();
        String[] texts = {"g1;", "g2;g3;", "g1", "e0=A;", "x", ""};
        int[] due = {1, 2, -3, 0, -1, 0};
        for (int call = 0; call < 510; call += 2) {
            int which = call / 2 % texts.length;
            if (texts[which].isEmpty()) {
                x.clear();
            } else {
                Check.tell(x, texts[which]);
            }
            Check.same("call " + (call + 2), x.read(), due[which]);
        }
        Check.same("call 511", x.sign('g', 1), 1);
        Check.same("call 512", x.read(), -2);
    }

    private static void manyRefusals() {
        GradeTexts x = Check.of("g1A1-2;");
        for (int call = 3; call <= 511; call += 3) {
            Check.index("call " + call, () -> x.span(2, 0, 0));
            Check.range("call " + (call + 1), () -> x.sign(0, 0));
            Check.turn("call " + (call + 2), () -> x.value(0, 0));
        }
    }

    private static void manyPrints() {
        GradeTexts x = Check.of("g1A1-2;g22;");
        for (int call = 4; call <= 510; call += 3) {
            boolean even = call % 2 == 0;
            Check.same("call " + call, x.write(even ? 1 : 22), even ? 7 : 4);
            Check.same("call " + (call + 1), x.at(3), (int) (even ? '1' : ';'));
            Check.same("call " + (call + 2), x.at(4), even ? '-' : -1);
        }
    }

    private static void firstWrongByte() {
        Check.sentence("A text is WRONG at the first byte with which it can't be right, whatever follows");
        for (String rest : new String[] {"", ";", "x", "g1;", "  ", "\0", "0"}) {
            Check.wrongAt("x" + rest, 0);
            Check.wrongAt("g1;x" + rest, 3);
            Check.wrongAt("e0=A+I" + rest, 5);
            Check.wrongAt("g1A1-2A" + rest, 6);
            Check.wrongAt("g1r8" + rest, 3);
            Check.wrongAt("g1q4" + rest, 3);
        }
        Check.wrongAt("e4=I;g0;", 1);
        Check.wrongAt("g1A5-4A5-4;", 5);
    }

    private static void missing() {
        Check.sentence("its length when something is missing");
        String text = "e1=A/2+B;g1<2A1-2r1q1<3;";
        for (int length = 1; length < text.length(); length++) {
            String start = text.substring(0, length);
            if (!start.endsWith(";")) {
                Check.wrongAt(start, length);
                Check.wrongAt(start + " ", length + 1);
                Check.wrongAt(start + "   ", length + 3);
            }
        }
        Check.wrongAt("e1=A;g", 6);
        Check.wrongAt("e1=A;e", 6);
        Check.wrongAt("g1r0123", 7);
        Check.wrongAt("e0=A+B+C+D+E+F+G+H", 18);
    }

    private static void numbersNotSo() {
        Check.sentence("numbers that are not so at their last byte");
        Check.wrongAt("g0", 1);
        Check.wrongAt("g31", 2);
        Check.wrongAt("g31;", 2);
        Check.wrongAt("g100;", 3);
        Check.wrongAt("g310;", 3);
        Check.wrongAt("g1<0", 3);
        Check.wrongAt("g1<31", 4);
        Check.wrongAt("g1<100A1-2;", 5);
        Check.wrongAt("e0=A/0", 5);
        Check.wrongAt("e0=A/21", 6);
        Check.wrongAt("e0=A/100+B;", 7);
        Check.wrongAt("g1A100001", 8);
        Check.wrongAt("g1A200000-200000;", 8);
        Check.wrongAt("g1A0-100001", 10);
        Check.wrongAt("g1A5-4", 5);
        Check.wrongAt("g1A5-4;", 5);
        Check.wrongAt("g1A1000-999;", 10);
        Check.wrongAt("g 31 ;", 3);
        Check.wrongAt("g1 A 5 - 4 ;", 9);
    }

    private static void rangeAheadOfDigits() {
        Check.sentence("the range ahead of a digit too many");
        Check.wrongAt("g1A1234567", 8);
        Check.wrongAt("g1A0-1234567", 10);
        Check.wrongAt("g1A999999-1234567", 8);
        Check.wrongAt("g1234567;", 6);
        Check.wrongAt("g1<1234567;", 8);
        Check.wrongAt("e0=A/1234567;", 10);
        Check.wrongAt("g01;", 1);
        Check.wrongAt("g1<01;", 3);
        Check.wrongAt("e0=A/01;", 5);
        Check.wrongAt("g1A5-05;", 5);
        Check.wrongAt("g1A1000000", 9);
        Check.wrongAt("g1A05", 4);
        Check.wrongAt("g1q0<9999999", 11);
    }

    private static void toldTwice() {
        Check.sentence("an element, kind or number told twice at its last byte");
        Check.wrongAt("e0=A+A", 5);
        Check.wrongAt("e0=A+A/21;", 5);
        Check.wrongAt("g1A1-2A", 6);
        Check.wrongAt("g1A1-2A9-8;", 6);
        Check.wrongAt("e0=A;e0", 6);
        Check.wrongAt("e0=A;e0x", 6);
        Check.wrongAt("e0=A;e 0 =B;", 7);
        Check.wrongAt("g1q0<5q0", 7);
        Check.wrongAt("g1q0<5q 0<5;", 8);
        Check.wrongAt("g1;g1", 4);
        Check.wrongAt("g1;g1<31;", 4);
        Check.wrongAt("g12;g12;", 6);
        Check.wrongAt("g12;g 12;", 7);
        Check.wrongAt("g30;g3;g30;", 9);
        Check.right("g1;g12;g11;g2;", 4);
    }

    private static void routesNotRising() {
        Check.sentence("a route that does not rise at itself");
        Check.wrongAt("g1r11", 4);
        Check.wrongAt("g1r10", 4);
        Check.wrongAt("g1r1 1;", 5);
        Check.wrongAt("g1r0770", 5);
        Check.wrongAt("g1r0120;", 6);
    }

    private static void fifthRoute() {
        Check.sentence("a fifth route likewise");
        for (char fifth = '0'; fifth <= '9'; fifth++) {
            Check.wrongAt("g1r0123" + fifth, 7);
            Check.wrongAt("g1r0 1 2 3 " + fifth + ";", 11);
        }
        Check.wrongAt("g1r012345;", 7);
        Check.right("g1r0123;", 1);
        Check.right("g1r0123q0<4;", 1);
    }

    private static void takesThePlace() {
        Check.sentence("A right text takes the place of all grades and formulas");
        GradeTexts x = Check.of("e0=A;e1=B/2;g1A1-2r3q0<4;g30<1;");
        Check.same("a smaller text", Check.read(x, "e1=C;g2;"), 1);
        Check.index("grade 1", () -> x.span(1, 0, 0));
        Check.index("grade 30", () -> x.span(30, 0, 0));
        Check.turn("formula 0", () -> x.equivalent(2, 0, 0, 0));
        Check.same("formula 1", Check.equivalent(x, 2, 1, 1), "100000/1");
        Check.same("the first text's grades, bare", Check.read(x, "g1;g30;"), 2);
        Check.same("its routes", Check.routes(x, 1) + Check.routes(x, 30), "");
        Check.same("an empty text", x.read(), 0);
        Check.index("grade 2", () -> x.span(2, 0, 0));
        Check.turn("formula 1 again", () -> x.value(1, 0));
        Check.same("the first text's grade again", Check.read(x, "g1;g30<1;"), 2);
        Check.same("its span", Check.span(x, 1, 0) + " " + Check.span(x, 30, 0), "0-100000 0-100000");
        Check.same("its routes", Check.routes(x, 1) + Check.routes(x, 30), "");
        Check.same("its limits", x.limit(1, 0) + " " + x.limit(30, 0), "-1 -1");
    }

    private static void rings() {
        Check.sentence("A grade on a RING (that comes back to itself by parents) has no parent");
        GradeTexts one = Check.of("g7<7A1-2r3q0<4;g8<7;");
        Check.same("a ring of one", one.ring(0) + " " + one.ring(1), "7 -1");
        Check.same("a ring of one, own span", Check.span(one, 7, 0), "1-2");
        Check.same("a ring of one, no span", Check.span(one, 7, 1), "0-100000");
        Check.same("an heir of it", Check.span(one, 8, 0) + Check.routes(one, 8) + one.limit(8, 0), "1-234");
        GradeTexts two = Check.of("g1<30A1-2r1q0<1;g30<1B3-4q1<2;g2<1;");
        Check.same("a ring of two", two.ring(0) + " " + two.ring(1) + " " + two.ring(2), "1 30 -1");
        Check.same("none of the other's", Check.span(two, 1, 1) + " " + Check.span(two, 30, 0), "0-100000 0-100000");
        Check.same("no routes of the other's", Check.routes(two, 30), "");
        Check.same("no limits of the other's", two.limit(1, 1) + " " + two.limit(30, 0), "-1 -1");
        Check.same("an heir of one alone", Check.span(two, 2, 0) + " " + Check.span(two, 2, 1), "1-2 0-100000");
        StringBuilder text = new StringBuilder("g1<30A1-2;");
        for (int grade = 2; grade <= 30; grade++) {
            text.append("g").append(grade).append("<").append(grade - 1).append(";");
        }
        GradeTexts all = Check.of(text.toString());
        for (int k = 0; k <= 30; k++) {
            Check.same("a ring of all, " + k, all.ring(k), k < 30 ? k + 1 : -1);
        }
        Check.same("next in it", Check.span(all, 2, 0) + " " + Check.span(all, 30, 0), "0-100000 0-100000");
    }

    private static void parentsNotTold() {
        Check.sentence("one whose parent is not told, too");
        GradeTexts x = Check.of("g1<30A1-2;g2<1;g3<29;");
        Check.same("no ring", x.ring(0), -1);
        Check.same("its own", Check.span(x, 1, 0), "1-2");
        Check.same("none", Check.span(x, 1, 1) + Check.routes(x, 1) + x.limit(1, 0), "0-100000-1");
        Check.same("an heir of it", Check.span(x, 2, 0), "1-2");
        Check.same("bare", Check.span(x, 3, 0) + Check.routes(x, 3) + x.limit(3, 3), "0-100000-1");
        Check.read(x, "g30A5-6r2q0<7;");
        Check.same("told once", Check.span(x, 30, 0), "5-6");
        Check.read(x, "g1<30;");
        Check.same("told in the text before", Check.span(x, 1, 0) + Check.routes(x, 1) + x.limit(1, 0), "0-100000-1");
    }

    /** Grade 1 tells all, each other one has the one below it as its parent. */
    private static String chain(String first) {
        StringBuilder text = new StringBuilder();
        for (int grade = 30; grade > 1; grade--) {
            text.append("g").append(grade).append("<").append(grade - 1).append(";");
        }
        return text.append("g1").append(first).append(";").toString();
    }

    private static void spansOfParents() {
        Check.sentence("A grade's SPAN of an element is the one that it tells, else its parent's, else 0 .. 100,000");
        GradeTexts x = Check.of("g1A5-6B5-6;g2<1A0-100000;g3<2B0-0;");
        Check.same("told as wide as can be", Check.span(x, 2, 0), "0-100000");
        Check.same("the heir of that", Check.span(x, 3, 0), "0-100000");
        Check.same("told as 0-0", Check.span(x, 3, 1), "0-0");
        Check.same("the parent's", Check.span(x, 2, 1), "5-6");
        Check.same("nobody's", Check.span(x, 3, 7), "0-100000");
        GradeTexts y = Check.of(chain("H7-8"));
        Check.same("through 29 parents", Check.span(y, 30, 7), "7-8");
        Check.same("none through 29 parents", Check.span(y, 30, 0), "0-100000");
    }

    private static void routesOfParents() {
        Check.sentence("Likewise its routes (none in the end: no routes)");
        GradeTexts x = Check.of("g1r0123;g2<1r7;g3<2;g4<5;g5;");
        Check.same("told", Check.routes(x, 2), "7");
        Check.same("the parent's", Check.routes(x, 3), "7");
        Check.same("none in the end", Check.routes(x, 4) + Check.routes(x, 5), "");
        GradeTexts y = Check.of(chain("r0"));
        Check.same("through 29 parents", Check.routes(y, 30), "0");
    }

    private static void limitsOfParents() {
        Check.sentence("and its limit of a kind (none in the end)");
        GradeTexts x = Check.of("g1q0<5q1<6;g2<1q0<0;g3<2q1<999999;g4<5;g5;");
        Check.same("0 is told", x.limit(2, 0), 0);
        Check.same("the parent's 0", x.limit(3, 0), 0);
        Check.same("the most is told", x.limit(3, 1), 999999);
        Check.same("the parent's", x.limit(2, 1), 6);
        Check.same("none in the end", x.limit(3, 2) + " " + x.limit(4, 0), "-1 -1");
        GradeTexts y = Check.of(chain("q3<0"));
        Check.same("through 29 parents", y.limit(30, 3) + " " + y.limit(30, 2), "0 -1");
    }

    private static void holdsSpans() {
        Check.sentence("for each element the other one's span lies within its own");
        for (char sign = 'A'; sign <= 'H'; sign++) {
            GradeTexts x = Check.of("g1?5-8;g2?5-8;g3?6-7;g4?4-8;g5?5-9;g6?0-4;g7?9-9;g8;".replace('?', sign));
            Check.same("the same span of " + sign, x.holds(1, 2), true);
            Check.same("a narrower one of " + sign, x.holds(1, 3), true);
            Check.same("a wider one of " + sign, x.holds(3, 1), false);
            Check.same("one low too low of " + sign, x.holds(1, 4), false);
            Check.same("one high too high of " + sign, x.holds(1, 5), false);
            Check.same("all below of " + sign, x.holds(1, 6), false);
            Check.same("all above of " + sign, x.holds(1, 7), false);
            Check.same("no span of " + sign, x.holds(1, 8), false);
            Check.same("in no span of " + sign, x.holds(8, 1), true);
            Check.same("itself", x.holds(1, 1) && x.holds(8, 8), true);
        }
    }

    private static void holdsLimits() {
        Check.sentence("for each kind that has a formula and of which it has a limit, the greatest equivalent by the "
            + "other one's spans is not above the limit");
        for (int kind = 0; kind < 4; kind++) {
            String text = "e?=A/3;g1q?<2;g2A0-6;g3A0-7;g4A7-7q?<0;g5;".replace("?", String.valueOf(kind));
            GradeTexts x = Check.of(text);
            Check.same("at the limit of " + kind, x.holds(1, 2), true);
            Check.same("a third above the limit of " + kind, x.holds(1, 3), false);
            Check.same("no limit of " + kind, x.holds(5, 3), true);
            Check.same("the other one's limit of " + kind, x.holds(3, 4), true);
            Check.same("its own limit of " + kind, x.holds(4, 4), false);
        }
        GradeTexts y = Check.of("e1=A;g1q0<0q2<0q3<0;g2<1;g3q1<100000;g4q1<99999;");
        Check.same("limits without formulas", y.holds(1, 2), true);
        Check.same("the greatest share at the limit", y.holds(3, 1), true);
        Check.same("the greatest share above the limit", y.holds(4, 1), false);
    }

    private static void orderOfRefusals() {
        Check.sentence("Refusals, in this order: index, turn, range, meaning");
        GradeTexts x = Check.of("g1;");
        Check.index("equivalent: grade ahead of turn", () -> x.equivalent(2, 0, 0, 0));
        Check.index("equivalent: kind", () -> x.equivalent(1, 4, 0, 0));
        Check.index("equivalent: end ahead of turn", () -> x.equivalent(1, 0, 2, 0));
        Check.index("equivalent: part ahead of turn", () -> x.equivalent(1, 0, 0, 2));
        Check.turn("equivalent: turn", () -> x.equivalent(1, 0, 1, 1));
        Check.index("value: part ahead of turn", () -> x.value(0, -1));
        Check.turn("value: turn", () -> x.value(0, 1));
        Check.index("share: index ahead of range", () -> {
            x.share(8, 100001);
            return "nothing";
        });
        Check.tell(x, " ".repeat(400));
        Check.range("sign: range ahead of meaning, 0", () -> x.sign(0, 0));
        Check.range("sign: range ahead of meaning, 9", () -> x.sign(0, 9));
        Check.meaning("sign: meaning", () -> x.sign(0, 1));
    }
}
