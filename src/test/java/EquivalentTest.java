/** Promises 6 (equivalent), 7 (share), 8 (value), 9 (fits) and 10 (holds). */
public final class EquivalentTest {
    private static final String TEXT =
        "e0=A+B/6+C/15;e2=H/20;g1A100-200B0-1500r137q0<400;g2<1A120-180q2<3;g3<2B0-2000C10-99r0;g7;";

    public static void main(String[] args) {
        equivalents();
        equivalentRefusals();
        greatEquivalents();
        values();
        shareRefusals();
        fits();
        fitsLimits();
        holds();
        holdsLimits();
        Check.end();
    }

    private static void equivalents() {
        GradeTexts x = Check.of(TEXT);
        Check.same("lows", Check.equivalent(x, 1, 0, 0), "100/1");
        Check.same("highs", Check.equivalent(x, 1, 0, 1), "21350/3");
        Check.same("lows of an heir", Check.equivalent(x, 3, 0, 0), "362/3");
        Check.same("highs of an heir", Check.equivalent(x, 3, 0, 1), "7799/15");
        Check.same("nothing", Check.equivalent(x, 7, 2, 0), "0/1");
        Check.same("one term", Check.equivalent(x, 7, 2, 1), "5000/1");
        GradeTexts y = Check.of("e3=A/2+B/2;e1=A/1+B/4;g9A1-3B1-6;");
        Check.same("halves that make one", Check.equivalent(y, 9, 3, 0), "1/1");
        Check.same("halves that stay", Check.equivalent(y, 9, 3, 1), "9/2");
        Check.same("quarters", Check.equivalent(y, 9, 1, 0), "5/4");
        Check.same("quarters that make halves", Check.equivalent(y, 9, 1, 1), "9/2");
    }

    private static void equivalentRefusals() {
        GradeTexts x = Check.of(TEXT);
        for (int no : new int[] {Integer.MIN_VALUE, -1, 31, Integer.MAX_VALUE}) {
            Check.index("grade " + no, () -> x.equivalent(no, 0, 0, 0));
            Check.index("kind " + no, () -> x.equivalent(1, no, 0, 0));
            Check.index("end " + no, () -> x.equivalent(1, 0, no, 0));
            Check.index("part " + no, () -> x.equivalent(1, 0, 0, no));
            Check.index("grade ahead of turn " + no, () -> x.equivalent(no, 1, 0, 0));
            Check.index("end ahead of turn " + no, () -> x.equivalent(1, 1, no, 0));
            Check.index("part ahead of turn " + no, () -> x.equivalent(1, 1, 0, no));
            Check.index("value of kind " + no, () -> x.value(no, 0));
            Check.index("value of part " + no, () -> x.value(0, no));
            Check.index("value, part ahead of turn " + no, () -> x.value(1, no));
        }
        Check.index("grade 0", () -> x.equivalent(0, 0, 0, 0));
        Check.index("a grade not told", () -> x.equivalent(4, 1, 0, 0));
        Check.index("kind 4", () -> x.equivalent(1, 4, 0, 0));
        Check.index("end 2", () -> x.equivalent(1, 1, 2, 0));
        Check.index("part 2", () -> x.equivalent(1, 1, 0, 2));
        Check.index("value of kind 4", () -> x.value(4, 0));
        Check.index("value of part 2", () -> x.value(1, 2));
        Check.turn("no formula", () -> x.equivalent(1, 1, 0, 0));
        Check.turn("no formula, last kind", () -> x.equivalent(1, 3, 1, 1));
        Check.turn("no formula for a value", () -> x.value(3, 1));
    }

    private static void greatEquivalents() {
        GradeTexts x = Check.of("e0=A/7+B/11+C/13+D/17+E/19+F/20+G/9+H/16;e1=A+B+C+D+E+F+G+H;g1;g3B0-99999;");
        Check.same("many divisors", Check.equivalent(x, 1, 0, 1), "187908853750/2909907");
        Check.same("many divisors, changed", Check.equivalent(x, 3, 0, 1), "187908589213/2909907");
        Check.same("the most", Check.equivalent(x, 1, 1, 1), "800000/1");
        GradeTexts y = Check.of("e0=A/19+B/17+C/13+D/11+E/7+F/9+G/16+H/5;g1A1-1B1-1C1-1D1-1E1-1F1-1G1-1H1-1;");
        Check.same("the greatest lower number", Check.equivalent(y, 1, 0, 0), "185245967/232792560");
        for (int divisor = 1; divisor <= 20; divisor++) {
            GradeTexts z = Check.of("e0=A/" + divisor + ";g1A0-1;");
            Check.same("one over " + divisor, Check.equivalent(z, 1, 0, 1), "1/" + divisor);
        }
    }

    private static void values() {
        GradeTexts x = Check.of(TEXT);
        Check.same("all 0 at first", Check.value(x, 0) + " " + Check.value(x, 2), "0/1 0/1");
        x.share(0, 150);
        x.share(1, 1499);
        x.share(2, 5);
        Check.same("a sum", Check.value(x, 0), "2401/6");
        x.share(7, 61);
        Check.same("another kind", Check.value(x, 2), "61/20");
        x.share(7, 100000);
        Check.same("the most", Check.value(x, 2), "5000/1");
        x.share(7, 0);
        Check.same("the least", Check.value(x, 2), "0/1");
        x.share(3, 77);
        Check.same("an element without a term", Check.value(x, 0), "2401/6");
        Check.read(x, "e3=A;");
        Check.same("shares stay with another text", Check.value(x, 3), "150/1");
        Check.read(x, "x");
        Check.same("shares stay with a wrong text", Check.value(x, 3), "150/1");
    }

    private static void shareRefusals() {
        GradeTexts x = Check.of("e0=A+B+C+D+E+F+G+H;");
        for (int element : new int[] {Integer.MIN_VALUE, -1, 8, Integer.MAX_VALUE}) {
            Check.index("share of " + element, () -> share(x, element, 1));
            Check.index("index ahead of range " + element, () -> share(x, element, -1));
        }
        for (int v : new int[] {Integer.MIN_VALUE, -1, 100001, Integer.MAX_VALUE}) {
            Check.range("a share " + v, () -> share(x, 0, v));
            Check.range("a last share " + v, () -> share(x, 7, v));
        }
        Check.same("nothing was taken", Check.value(x, 0), "0/1");
    }

    private static Object share(GradeTexts x, int element, int v) {
        x.share(element, v);
        return "nothing";
    }

    private static void fits() {
        GradeTexts x = Check.of("g1A1-3C5-5;g2<1H0-7;g3;");
        Check.same("below", x.fits(1), 0);
        Check.same("any", x.fits(3), -1);
        x.share(0, 1);
        Check.same("the next one", x.fits(1), 2);
        x.share(2, 5);
        Check.same("at the low", x.fits(1), -1);
        x.share(0, 3);
        Check.same("at the high", x.fits(1), -1);
        x.share(0, 4);
        Check.same("above", x.fits(1), 0);
        x.share(0, 2);
        x.share(7, 8);
        Check.same("the last element", x.fits(2), 7);
        Check.same("of the heir alone", x.fits(1), -1);
        x.share(2, 6);
        Check.same("the first of two, by the parent", x.fits(2), 2);
        for (int grade : new int[] {Integer.MIN_VALUE, -1, 0, 4, 31, Integer.MAX_VALUE}) {
            Check.index("fits of " + grade, () -> x.fits(grade));
        }
    }

    private static void fitsLimits() {
        GradeTexts x = Check.of("e0=A/3;e3=A+B;g1B0-9q3<10q0<2q1<0;g2<1q0<100000;g3q2<0;");
        x.share(0, 6);
        x.share(1, 4);
        Check.same("at both limits", x.fits(1), -1);
        x.share(1, 5);
        Check.same("above the last kind's", x.fits(1), 11);
        x.share(0, 7);
        Check.same("above two: the first kind", x.fits(1), 8);
        Check.same("changed limit, and the parent's", x.fits(2), 11);
        x.share(1, 10);
        Check.same("an element ahead of a kind", x.fits(1), 1);
        x.share(1, 0);
        Check.same("a third above", x.fits(1), 8);
        Check.same("no formula of the limit's kind", x.fits(3), -1);
    }

    private static void holds() {
        GradeTexts x = Check.of("g1A1-9;g2A2-8;g3A1-9B0-100000;g4A0-9;g5A1-10;g6<2B3-3;g7;");
        Check.same("within", x.holds(1, 2), true);
        Check.same("not within", x.holds(2, 1), false);
        Check.same("the same", x.holds(1, 3) && x.holds(3, 1) && x.holds(1, 1), true);
        Check.same("the low is below", x.holds(1, 4), false);
        Check.same("the high is above", x.holds(1, 5), false);
        Check.same("an heir", x.holds(1, 6), true);
        Check.same("the other way", x.holds(6, 1), false);
        Check.same("all", x.holds(7, 6), true);
        Check.same("not all", x.holds(6, 7), false);
        for (int grade : new int[] {Integer.MIN_VALUE, -1, 0, 8, 31, Integer.MAX_VALUE}) {
            Check.index("holds of " + grade, () -> x.holds(grade, 1));
            Check.index("holds with " + grade, () -> x.holds(1, grade));
        }
    }

    private static void holdsLimits() {
        GradeTexts x = Check.of("e0=A/3;e2=B;g1q0<2q1<0;g2A0-6;g3A0-7;g4<1B0-5q2<5;g5A0-6B0-5;g6A0-6B0-6;g7<2q0<1;");
        Check.same("at the limit", x.holds(1, 2), true);
        Check.same("a third above the limit", x.holds(1, 3), false);
        Check.same("by the highs of itself", x.holds(1, 1), false);
        Check.same("the parent's limit too", x.holds(4, 5), true);
        Check.same("the second kind's limit", x.holds(4, 6), false);
        Check.same("the other one's limits do not count", x.holds(2, 7), true);
        Check.same("its own limit counts", x.holds(7, 2), false);
        Check.same("a wider grade without limits", x.holds(3, 2), true);
        GradeTexts y = Check.of("e0=A+B+C+D+E+F+G+H;g1q0<799999;g2q0<800000;g3q0<999999;");
        Check.same("one below the greatest", y.holds(1, 1), false);
        Check.same("the greatest", y.holds(2, 2), true);
        Check.same("far above the greatest", y.holds(3, 1), true);
    }
}
