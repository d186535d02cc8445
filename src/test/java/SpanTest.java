/** Promises 4 (span), 5 (limit), 11 (ring), 12 (route) and 13 (difference). */
public final class SpanTest {
    private static final String FAMILY =
        "g1A100-200B0-1500r137q0<400;g2<1A120-180q2<3;g3<2B0-2000C10-99r0;g7;g30<3H5-6q0<0;";
    private static final String RINGS =
        "g1<2A1-9r1q0<1;g2<3B1-9r2q1<2;g3<1C1-9;g4<2D1-9;g5<5E1-9;g6<9F1-9;g8<4;g29<30;g30<29;";

    public static void main(String[] args) {
        spans();
        spanRefusals();
        limits();
        routes();
        rings();
        heirsOfRings();
        longChain();
        differences();
        Check.end();
    }

    private static void spans() {
        GradeTexts x = Check.of(FAMILY);
        Check.same("told", Check.span(x, 1, 0), "100-200");
        Check.same("changed", Check.span(x, 2, 0), "120-180");
        Check.same("of the parent", Check.span(x, 2, 1), "0-1500");
        Check.same("of the parent's parent", Check.span(x, 30, 0), "120-180");
        Check.same("changed without being narrower", Check.span(x, 3, 1), "0-2000");
        Check.same("of nobody", Check.span(x, 30, 4), "0-100000");
        Check.same("the last element", Check.span(x, 30, 7), "5-6");
        Check.same("not the heir's", Check.span(x, 3, 7), "0-100000");
        Check.same("without a parent", Check.span(x, 7, 0), "0-100000");
        GradeTexts y = Check.of("g1<2;g2A0-0;");
        Check.same("the parent is told later, with 0-0", Check.span(y, 1, 0), "0-0");
    }

    private static void spanRefusals() {
        GradeTexts x = Check.of(FAMILY);
        for (int grade : new int[] {Integer.MIN_VALUE, -1, 0, 4, 29, 31, 32, 33, 34, 62, Integer.MAX_VALUE}) {
            Check.index("span of grade " + grade, () -> x.span(grade, 0, 0));
            Check.index("limit of grade " + grade, () -> x.limit(grade, 0));
            Check.index("route of grade " + grade, () -> x.route(grade, 0));
            Check.index("difference of grade " + grade, () -> x.difference(grade, 1, 0));
            Check.index("difference with grade " + grade, () -> x.difference(1, grade, 0));
        }
        for (int element : new int[] {Integer.MIN_VALUE, -1, 8, Integer.MAX_VALUE}) {
            Check.index("span of element " + element, () -> x.span(1, element, 0));
        }
        for (int end : new int[] {Integer.MIN_VALUE, -1, 2, Integer.MAX_VALUE}) {
            Check.index("span at end " + end, () -> x.span(1, 0, end));
        }
        for (int kind : new int[] {Integer.MIN_VALUE, -1, 4, Integer.MAX_VALUE}) {
            Check.index("limit of kind " + kind, () -> x.limit(1, kind));
        }
        for (int k : new int[] {Integer.MIN_VALUE, -1}) {
            Check.index("route " + k, () -> x.route(1, k));
            Check.index("ring " + k, () -> x.ring(k));
            Check.index("difference " + k, () -> x.difference(1, 2, k));
        }
    }

    private static void limits() {
        GradeTexts x = Check.of(FAMILY);
        Check.same("told", x.limit(1, 0), 400);
        Check.same("of the parent", x.limit(2, 0), 400);
        Check.same("told beside the parent's", x.limit(2, 2), 3);
        Check.same("of the parent's parent", x.limit(3, 0), 400);
        Check.same("not the heir's", x.limit(1, 2), -1);
        Check.same("0 is a limit", x.limit(30, 0), 0);
        Check.same("none in the end", x.limit(30, 3), -1);
        Check.same("none", x.limit(7, 0), -1);
        Check.same("the most", Check.of("g1q3<999999;").limit(1, 3), 999999);
    }

    private static void routes() {
        GradeTexts x = Check.of(FAMILY);
        for (int grade = 1; grade <= 2; grade++) {
            Check.same("first route", x.route(grade, 0), 1);
            Check.same("second route", x.route(grade, 1), 3);
            Check.same("third route", x.route(grade, 2), 7);
            Check.same("no fourth route", x.route(grade, 3), -1);
        }
        Check.same("changed", x.route(3, 0), 0);
        Check.same("changed wholly", x.route(3, 1), -1);
        Check.same("of the parent", x.route(30, 0), 0);
        Check.same("none", x.route(7, 0), -1);
        Check.same("far behind", x.route(1, Integer.MAX_VALUE), -1);
        Check.same("a fourth route", Check.of("g1r0467;").route(1, 3), 7);
    }

    private static void rings() {
        GradeTexts x = Check.of(RINGS);
        int[] due = {1, 2, 3, 5, 29, 30, -1, -1};
        for (int k = 0; k < due.length; k++) {
            Check.same("ring " + k, x.ring(k), due[k]);
        }
        Check.same("far behind", x.ring(Integer.MAX_VALUE), -1);
        Check.same("no rings", Check.of(FAMILY).ring(0), -1);
        StringBuilder all = new StringBuilder("g1<30;");
        for (int grade = 2; grade <= 30; grade++) {
            all.append("g").append(grade).append("<").append(grade - 1).append(";");
        }
        GradeTexts y = Check.of(all.toString());
        for (int k = 0; k < 30; k++) {
            Check.same("the greatest ring " + k, y.ring(k), k + 1);
        }
        Check.same("the greatest ring's end", y.ring(30), -1);
        Check.read(x, "g1;");
        Check.same("rings of a text before", x.ring(0), -1);
    }

    private static void heirsOfRings() {
        GradeTexts x = Check.of(RINGS);
        Check.same("own", Check.span(x, 1, 0), "1-9");
        Check.same("none of the ring's next", Check.span(x, 1, 1), "0-100000");
        Check.same("none of the ring's last", Check.span(x, 1, 2), "0-100000");
        Check.same("no routes of the ring's", x.route(3, 0), -1);
        Check.same("no limit of the ring's", x.limit(1, 1), -1);
        Check.same("a ring of one", Check.span(x, 5, 4), "1-9");
        Check.same("an heir has those of its parent", Check.span(x, 4, 1), "1-9");
        Check.same("an heir has those of its parent alone", Check.span(x, 4, 2), "0-100000");
        Check.same("an heir's routes", x.route(8, 0), 2);
        Check.same("an heir's limit", x.limit(8, 1), 2);
        Check.same("an heir's limit ends at the ring", x.limit(8, 0), -1);
        Check.same("a parent that is not told", Check.span(x, 6, 5) + Check.span(x, 6, 0), "1-90-100000");
    }

    private static void longChain() {
        StringBuilder all = new StringBuilder("g1A7-8r5q2<9;");
        for (int grade = 2; grade <= 30; grade++) {
            all.append("g").append(grade).append("<").append(grade - 1).append(";");
        }
        GradeTexts x = Check.of(all.toString());
        Check.same("span through 29 parents", Check.span(x, 30, 0), "7-8");
        Check.same("no span through 29 parents", Check.span(x, 30, 1), "0-100000");
        Check.same("route through 29 parents", x.route(30, 0), 5);
        Check.same("limit through 29 parents", x.limit(30, 2), 9);
        Check.same("no limit through 29 parents", x.limit(30, 1), -1);
    }

    private static void differences() {
        GradeTexts x = Check.of(FAMILY);
        Check.same("one", x.difference(1, 2, 0), 0);
        Check.same("no second one", x.difference(1, 2, 1), -1);
        Check.same("first of three", x.difference(1, 3, 0), 0);
        Check.same("second of three", x.difference(3, 1, 1), 1);
        Check.same("third of three", x.difference(1, 3, 2), 2);
        Check.same("no fourth", x.difference(1, 3, 3), -1);
        Check.same("with itself", x.difference(30, 30, 0), -1);
        Check.same("far behind", x.difference(1, 3, Integer.MAX_VALUE), -1);
        Check.same("the last element", x.difference(3, 30, 0), 7);
        GradeTexts y = Check.of("g1A0-5B1-100000C0-100000;g2A0-6B0-100000;");
        Check.same("by the high alone", y.difference(1, 2, 0), 0);
        Check.same("by the low alone", y.difference(1, 2, 1), 1);
        Check.same("told, but the same", y.difference(1, 2, 2), -1);
    }
}
