/** The edges of a text: each sentence under "Terms" that names one has a test of its own here. */
public final class TextEdgeTest {
    public static void main(String[] args) {
        elementsOfAText();
        mostBytes();
        rowsEnd();
        blanks();
        digitsOfNumbers();
        zeroInFront();
        kindsOfFormulas();
        countsOfTerms();
        divisors();
        termsTwice();
        divisorsNotTold();
        numbersOfGrades();
        parents();
        orderOfChanges();
        countsOfSpans();
        endsOfSpans();
        spansTwice();
        countsOfRoutes();
        digitsOfRoutes();
        countsOfLimits();
        mostsOfLimits();
        limitsTwice();
        Check.end();
    }

    private static void elementsOfAText() {
        Check.sentence("ELEMENTS A .. H (0 .. 7)");
        for (int element = 0; element < 8; element++) {
            String sign = String.valueOf((char) ('A' + element));
            GradeTexts x = Check.of("e0=" + sign + ";g1" + sign + "3-4;");
            Check.same("span of " + sign, Check.span(x, 1, element), "3-4");
            Check.same("term of " + sign, Check.equivalent(x, 1, 0, 1), "4/1");
        }
        Check.wrongAt("e0=@;", 3);
        Check.wrongAt("e0=I;", 3);
        Check.wrongAt("e0=a;", 3);
        Check.wrongAt("g1@3-4;", 2);
        Check.wrongAt("g1I3-4;", 2);
        Check.wrongAt("g1h3-4;", 2);
    }

    private static void mostBytes() {
        Check.sentence("A TEXT has at most 400 bytes");
        Check.right("", 0);
        Check.right("g1;" + " ".repeat(396), 1);
        Check.right("g1;" + " ".repeat(397), 1);
        Check.right(" ".repeat(397) + "g1;", 1);
        Check.right(" ".repeat(400), 0);
        Check.wrongAt(" ".repeat(399) + "x", 399);
        Check.wrongAt(" ".repeat(398) + "g1", 400);
        Check.wrongAt("g1" + " ".repeat(398), 400);
        Check.meaning("a text of 401 bytes", () -> Check.read(new GradeTexts(), "g1;" + " ".repeat(398)));
    }

    private static void rowsEnd() {
        Check.sentence("ROWS, each ended by a semicolon");
        Check.right("e0=A;", 0);
        Check.right("g1;g2;e0=A;e1=A;g3;", 3);
        Check.wrongAt("e0=A", 4);
        Check.wrongAt("g1", 2);
        Check.wrongAt("g1g2;", 2);
        Check.wrongAt("e0=Ae1=A;", 4);
        Check.wrongAt("e0=A/2g1;", 6);
        Check.wrongAt("g1A1-2e0=A;", 6);
        Check.wrongAt(";", 0);
        Check.wrongAt("g1;;", 3);
        Check.wrongAt("g1; ;g2;", 4);
        Check.wrongAt("g1:", 2);
    }

    private static void blanks() {
        Check.sentence("blanks may stand between signs, not within numbers");
        String text = "e0=A/12+B;e3=C;g12<30A10-20H0-100000r0127q0<999999q3<10;g30B7-7;";
        for (int place = 0; place <= text.length(); place++) {
            String spread = text.substring(0, place) + "  " + text.substring(place);
            if (withinNumber(text, place)) {
                Check.wrongAt(spread, place + (text.startsWith("-2", place - 2) ? -1 : 2));
            } else {
                Check.right(spread, 2);
            }
        }
        for (String other : new String[] {"\t", "\n", "\r", "\0", "\u001f", "!", "\u00a0"}) {
            Check.wrongAt(other + "g1;", 0);
            Check.wrongAt("g" + other + "1;", 1);
            Check.wrongAt("g1" + other + ";", 2);
            Check.wrongAt("g1;" + other, 3);
        }
    }

    /** Whether a digit stands on both sides of the place; routes are signs of their own. */
    private static boolean withinNumber(String text, int place) {
        return place > 0 && place < text.length()
            && Character.isDigit(text.charAt(place - 1)) && Character.isDigit(text.charAt(place))
            && (place < text.indexOf('r') || place > text.indexOf('q'));
    }

    private static void digitsOfNumbers() {
        Check.sentence("NUMBERS have one to six digits");
        Check.wrongAt("g1A-5;", 3);
        Check.wrongAt("g1A5-;", 5);
        Check.wrongAt("g1q0<;", 5);
        Check.wrongAt("g<2;", 1);
        Check.wrongAt("g1<;", 3);
        Check.wrongAt("e0=A/;", 5);
        for (String number : new String[] {"7", "78", "789", "7890", "78901"}) {
            Check.right("g1A" + number + "-" + number + ";", 1);
        }
        Check.right("g1A100000-100000;", 1);
        Check.right("g1q0<123456;", 1);
        Check.wrongAt("g1q0<1234567;", 11);
        Check.wrongAt("g1q0<12345678901234567890;", 11);
        Check.wrongAt("g1A1000000-1000000;", 9);
        Check.wrongAt("g1A100000-1000000;", 16);
        Check.wrongAt("g1A+5-6;", 3);
        Check.wrongAt("g1A--5-6;", 3);
        Check.wrongAt("g1A5.0-6;", 4);
        Check.wrongAt("g1q0</;", 5);
        Check.wrongAt("g1q0<:;", 5);
    }

    private static void zeroInFront() {
        Check.sentence("without 0 in front of another one");
        Check.right("g1A0-0q0<0;", 1);
        Check.right("g10<20A10-100q0<1000;", 1);
        Check.wrongAt("g1A00-5;", 4);
        Check.wrongAt("g1A05-5;", 4);
        Check.wrongAt("g1A0-00;", 6);
        Check.wrongAt("g1A0-05;", 6);
        Check.wrongAt("g1q0<00;", 6);
        Check.wrongAt("g1q0<09;", 6);
        Check.wrongAt("g1q0<000000;", 6);
    }

    private static void kindsOfFormulas() {
        Check.sentence("A FORMULA: e, a KIND (0 .. 3), =");
        Check.right("e0=A;", 0);
        Check.right("e3=A;", 0);
        Check.right("e3=A;e1=B;e0=C;e2=D;", 0);
        Check.wrongAt("e4=A;", 1);
        Check.wrongAt("e9=A;", 1);
        Check.wrongAt("e/=A;", 1);
        Check.wrongAt("e:=A;", 1);
        Check.wrongAt("e=A;", 1);
        Check.wrongAt("e;", 1);
        Check.wrongAt("e0;", 2);
        Check.wrongAt("e-1=A;", 1);
        Check.wrongAt("e00=A;", 2);
        Check.wrongAt("e10=A;", 2);
        Check.wrongAt("e0A;", 2);
        Check.wrongAt("e0<A;", 2);
        GradeTexts x = Check.of("e0=A;e3=H;");
        Check.same("kind 0", Check.value(x, 0), "0/1");
        Check.turn("kind 1", () -> x.value(1, 0));
        Check.turn("kind 2", () -> x.value(2, 0));
        Check.same("kind 3", Check.value(x, 3), "0/1");
    }

    private static void countsOfTerms() {
        Check.sentence("then 1 to 8 TERMS with + between");
        Check.wrongAt("e0=;", 3);
        Check.wrongAt("e0=+A;", 3);
        Check.wrongAt("e0=A+;", 5);
        Check.wrongAt("e0=A++B;", 5);
        Check.wrongAt("e0=AB;", 4);
        Check.wrongAt("e0=A-B;", 4);
        String eight = "A+B+C+D+E+F+G+H";
        for (int terms = 1; terms <= 8; terms++) {
            GradeTexts x = Check.of("e0=" + eight.substring(0, 2 * terms - 1) + ";g1;");
            Check.same(terms + " terms", Check.equivalent(x, 1, 0, 1), terms + "00000/1");
        }
        Check.wrongAt("e0=" + eight + "+A;", 19);
        Check.wrongAt("e0=" + eight + "+I;", 19);
        Check.wrongAt("e0=" + eight + "+;", 19);
    }

    private static void divisors() {
        Check.sentence("an element, perhaps / and a DIVISOR (1 .. 20)");
        Check.wrongAt("e0=A/0;", 5);
        Check.wrongAt("e0=A/21;", 6);
        Check.wrongAt("e0=A/99;", 6);
        Check.wrongAt("e0=A/-1;", 5);
        Check.wrongAt("e0=A/B;", 5);
        Check.wrongAt("e0=A2;", 4);
        Check.wrongAt("e0=A/2/2;", 6);
        Check.wrongAt("e0=/2;", 3);
        for (int divisor = 1; divisor <= 20; divisor++) {
            GradeTexts x = Check.of("e0=A/" + divisor + ";g1A1-1;");
            Check.same("1 over " + divisor, Check.equivalent(x, 1, 0, 0), "1/" + divisor);
        }
    }

    private static void termsTwice() {
        Check.sentence("no element twice (in a formula)");
        Check.wrongAt("e0=A+A;", 5);
        Check.wrongAt("e0=A/2+A/3;", 7);
        Check.wrongAt("e0=H+A+B+H;", 9);
        Check.right("e0=A;e1=A;", 0);
    }

    private static void divisorsNotTold() {
        Check.sentence("the sum of shares over their divisors (1 where none is told)");
        GradeTexts x = Check.of("e0=A;e1=A/1;e2=A+B/2+H/20;e3=H/20+B/2+A/1;g1A5-7B1-3H0-1;");
        Check.same("none and 1", Check.equivalent(x, 1, 0, 0) + " " + Check.equivalent(x, 1, 1, 0), "5/1 5/1");
        Check.same("beside others", Check.equivalent(x, 1, 2, 1) + " " + Check.equivalent(x, 1, 3, 1), "171/20 171/20");
    }

    private static void numbersOfGrades() {
        Check.sentence("A GRADE: g, a NUMBER (1 .. 30)");
        for (int grade = 1; grade <= 30; grade++) {
            GradeTexts x = Check.of("g" + grade + "A5-6;");
            Check.same("grade " + grade, Check.span(x, grade, 0), "5-6");
        }
        Check.wrongAt("g0;", 1);
        Check.wrongAt("g31;", 2);
        Check.wrongAt("g32;", 2);
        Check.wrongAt("g99;", 2);
        Check.wrongAt("g-1;", 1);
        Check.wrongAt("g;", 1);
        StringBuilder all = new StringBuilder();
        for (int grade = 30; grade >= 1; grade--) {
            all.append("g").append(grade).append(";");
        }
        Check.right(all.toString(), 30);
        Check.wrongAt(all + "g31;", all.length() + 2);
        Check.wrongAt(all + "g30;", all.length() + 2);
    }

    private static void parents() {
        Check.sentence("perhaps < and its PARENT (1 .. 30)");
        Check.right("g2;", 1);
        Check.right("g2<1;", 1);
        Check.right("g2<30;", 1);
        Check.wrongAt("g2<0;", 3);
        Check.wrongAt("g2<31;", 4);
        Check.wrongAt("g2<;", 3);
        Check.wrongAt("g2<A1-2;", 3);
        Check.wrongAt("g2<<1;", 3);
        Check.wrongAt("g2<1<1;", 4);
        Check.wrongAt("g<1;", 1);
        Check.same("parent 1", Check.span(Check.of("g2<1;g1A5-6;"), 2, 0), "5-6");
        Check.same("a parent of grade 1", Check.span(Check.of("g1<2;g2A5-6;"), 1, 0), "5-6");
        Check.same("a parent of grade 30", Check.span(Check.of("g30<29;g29A5-6;"), 30, 0), "5-6");
        Check.same("parent 30", Check.span(Check.of("g2<30;g30A5-6;"), 2, 0), "5-6");
    }

    private static void orderOfChanges() {
        Check.sentence("then in this order what it CHANGES");
        Check.right("g1<2A1-2r1q1<1;", 1);
        Check.right("g1<2r1q1<1;", 1);
        Check.right("g1<2A1-2q1<1;", 1);
        Check.right("g1<2A1-2r1;", 1);
        Check.wrongAt("g1A1-2<2;", 6);
        Check.wrongAt("g1r1<2;", 4);
        Check.wrongAt("g1q1<1<2;", 6);
        Check.wrongAt("g1r1A1-2;", 4);
        Check.wrongAt("g1q1<1A1-2;", 6);
        Check.wrongAt("g1q1<1r1;", 6);
        Check.wrongAt("g1r1r2;", 4);
    }

    private static void countsOfSpans() {
        Check.sentence("any SPANS: an element, LOW, -, HIGH");
        StringBuilder row = new StringBuilder("g1");
        for (int spans = 0; spans <= 8; spans++) {
            GradeTexts x = Check.of(row + ";");
            for (int element = 0; element < 8; element++) {
                String due = element < spans ? element + "-" + (10 + element) : "0-100000";
                Check.same("span " + element + " of " + spans, Check.span(x, 1, element), due);
            }
            row.append((char) ('A' + spans)).append(spans).append("-").append(10 + spans);
        }
        Check.wrongAt("g1A;", 3);
        Check.wrongAt("g1A5;", 4);
        Check.wrongAt("g1A5B;", 4);
        Check.wrongAt("g1A5+6;", 4);
        Check.wrongAt("g1A5-;", 5);
        Check.wrongAt("g1A5--6;", 5);
        Check.wrongAt("g1A5-6-7;", 6);
        Check.wrongAt("g15-6;", 3);
    }

    private static void endsOfSpans() {
        Check.sentence("(0 .. 100,000, low not above high)");
        for (String span : new String[] {"0-0", "0-1", "0-100000", "99999-100000", "100000-100000", "5-5"}) {
            Check.same("span " + span, Check.span(Check.of("g1C" + span + ";"), 1, 2), span);
        }
        Check.wrongAt("g1A100001-100001;", 8);
        Check.wrongAt("g1A999999-999999;", 8);
        Check.wrongAt("g1A0-100001;", 10);
        Check.wrongAt("g1A0-999999;", 10);
        Check.wrongAt("g1A1-0;", 5);
        Check.wrongAt("g1A6-5;", 5);
        Check.wrongAt("g1A100-99;", 8);
        Check.wrongAt("g1A100000-99999;", 14);
        Check.wrongAt("g1A-1-5;", 3);
    }

    private static void spansTwice() {
        Check.sentence("no element twice (in a grade)");
        Check.wrongAt("g1A1-2A1-2;", 6);
        Check.wrongAt("g1H1-2A1-2H3-4;", 10);
        Check.wrongAt("g1H1-2G1-2F1-2E1-2D1-2C1-2B1-2A1-2A1-2;", 34);
        Check.right("g1A1-2;g2A1-2;", 2);
        Check.right("g1<2A1-2;g2A1-2;", 2);
    }

    private static void countsOfRoutes() {
        Check.sentence("perhaps r and 1 to 4 ROUTES");
        Check.same("no r", Check.routes(Check.of("g1;"), 1), "");
        for (String routes : new String[] {"3", "35", "356", "3567", "0123"}) {
            Check.same("routes " + routes, Check.routes(Check.of("g1r" + routes + ";"), 1), routes);
        }
        Check.wrongAt("g1r;", 3);
        Check.wrongAt("g1rq0<5;", 3);
        Check.wrongAt("g1r01234;", 7);
        Check.wrongAt("g1r0123 4;", 8);
    }

    private static void digitsOfRoutes() {
        Check.sentence("(digits 0 .. 7, rising)");
        for (int route = 0; route < 8; route++) {
            Check.same("route " + route, Check.routes(Check.of("g1r" + route + ";"), 1), route);
        }
        Check.wrongAt("g1r8;", 3);
        Check.wrongAt("g1r9;", 3);
        Check.wrongAt("g1r/;", 3);
        Check.wrongAt("g1r:;", 3);
        Check.wrongAt("g1r78;", 4);
        Check.wrongAt("g1r00;", 4);
        Check.wrongAt("g1r77;", 4);
        Check.wrongAt("g1r10;", 4);
        Check.wrongAt("g1r0232;", 6);
        Check.wrongAt("g1r1,2;", 4);
        Check.same("the lowest two", Check.routes(Check.of("g1r01;"), 1), "01");
        Check.same("the highest two", Check.routes(Check.of("g1r67;"), 1), "67");
    }

    private static void countsOfLimits() {
        Check.sentence("any LIMITS: q, a kind, <");
        StringBuilder row = new StringBuilder("g1");
        for (int limits = 0; limits <= 4; limits++) {
            GradeTexts x = Check.of(row + ";");
            for (int kind = 0; kind < 4; kind++) {
                Check.same("limit " + kind + " of " + limits, x.limit(1, kind), kind < limits ? 70 + kind : -1);
            }
            row.append("q").append(limits).append("<").append(70 + limits);
        }
        Check.wrongAt("g1q4<5;", 3);
        Check.wrongAt("g1q9<5;", 3);
        Check.wrongAt("g1q/<5;", 3);
        Check.wrongAt("g1q<5;", 3);
        Check.wrongAt("g1q00<5;", 4);
        Check.wrongAt("g1q;", 3);
        Check.wrongAt("g1q0;", 4);
        Check.wrongAt("g1q05;", 4);
        Check.wrongAt("g1q0=5;", 4);
        Check.wrongAt("g10<5;g1q;", 9);
        Check.wrongAt("g1q0<5q;", 7);
    }

    private static void mostsOfLimits() {
        Check.sentence("and a most (0 .. 999,999)");
        for (int most : new int[] {0, 1, 9, 10, 100000, 100001, 999998, 999999}) {
            Check.same("most " + most, Check.of("g1q2<" + most + ";").limit(1, 2), most);
        }
        Check.wrongAt("g1q2<1000000;", 11);
        Check.wrongAt("g1q2<9999999;", 11);
        Check.wrongAt("g1q2<-1;", 5);
        Check.wrongAt("g1q2<;", 5);
        Check.wrongAt("g1q2<<5;", 5);
    }

    private static void limitsTwice() {
        Check.sentence("no kind twice");
        Check.wrongAt("g1q0<5q0<5;", 7);
        Check.wrongAt("g1q3<5q1<5q3<6;", 11);
        Check.wrongAt("g1q0<1q1<1q2<1q3<1q0<1;", 19);
        Check.right("g1q0<5;g2q0<5;", 2);
        Check.right("g1<2q0<5;g2q0<5;", 2);
    }
}
