/** Promise 3: where a text is wrong. */
public final class WrongTextTest {
    public static void main(String[] args) {
        rows();
        formulas();
        gradesAndParents();
        spans();
        routes();
        limits();
        blanks();
        numbers();
        everyBeginningOfARightText();
        Check.end();
    }

    private static void rows() {
        Check.wrongAt("x", 0);
        Check.wrongAt(";", 0);
        Check.wrongAt("g1;;", 3);
        Check.wrongAt("A1-2;", 0);
        Check.wrongAt("E0=A;", 0);
        Check.wrongAt("G1;", 0);
        Check.wrongAt("g1;q0<5;", 3);
        Check.wrongAt("g1g2;", 2);
        Check.wrongAt("g1,", 2);
        Check.wrongAt("\tg1;", 0);
        Check.wrongAt("\0", 0);
        Check.right("g30;", 1);
        Check.right("g2;e3=H;g1;e0=A;", 2);
    }

    private static void formulas() {
        Check.wrongAt("e", 1);
        Check.wrongAt("e;", 1);
        Check.wrongAt("e4", 1);
        Check.wrongAt("e9=A;", 1);
        Check.wrongAt("e=A;", 1);
        Check.wrongAt("e0", 2);
        Check.wrongAt("e0A", 2);
        Check.wrongAt("e00=A;", 2);
        Check.wrongAt("e0=", 3);
        Check.wrongAt("e0=;", 3);
        Check.wrongAt("e0=I", 3);
        Check.wrongAt("e0=a", 3);
        Check.wrongAt("e0=@", 3);
        Check.wrongAt("e0=5", 3);
        Check.wrongAt("e0=A", 4);
        Check.wrongAt("e0=AB", 4);
        Check.wrongAt("e0=A5", 4);
        Check.wrongAt("e0=A+", 5);
        Check.wrongAt("e0=A+;", 5);
        Check.wrongAt("e0=A++B;", 5);
        Check.wrongAt("e0=A+A", 5);
        Check.wrongAt("e0=A+B/2+A/3;", 9);
        Check.wrongAt("e0=A/", 5);
        Check.wrongAt("e0=A/;", 5);
        Check.wrongAt("e0=A/B", 5);
        Check.wrongAt("e0=A/0", 5);
        Check.wrongAt("e0=A/21", 6);
        Check.wrongAt("e0=A/2/3;", 6);
        Check.wrongAt("e0=A/20", 7);
        Check.wrongAt("e0=A;e0", 6);
        Check.wrongAt("e0=A;e1=A;e2=A;e3=A;e3=A;", 21);
        Check.wrongAt("e0=A+B+C+D+E+F+G+H+A;", 19);
        Check.right("e0=A+B+C+D+E+F+G+H;", 0);
        Check.right("e3=H/20+G/1;e2=H;e1=H;e0=H;", 0);
    }

    private static void gradesAndParents() {
        Check.wrongAt("g", 1);
        Check.wrongAt("g;", 1);
        Check.wrongAt("gA", 1);
        Check.wrongAt("g0", 1);
        Check.wrongAt("g31", 2);
        Check.wrongAt("g99;", 2);
        Check.wrongAt("g1", 2);
        Check.wrongAt("g30", 3);
        Check.wrongAt("g1<", 3);
        Check.wrongAt("g1<;", 3);
        Check.wrongAt("g1<A", 3);
        Check.wrongAt("g1<0", 3);
        Check.wrongAt("g1<31", 4);
        Check.wrongAt("g1<2<3;", 4);
        Check.wrongAt("g1<2", 4);
        Check.wrongAt("g1;g1", 4);
        Check.wrongAt("g1;g1;", 4);
        Check.wrongAt("g12;g1;g12;", 9);
        Check.right("g1;g12;g2;", 3);
        Check.right("g1<1;", 1);
        Check.right("g1<30;", 1);
    }

    private static void spans() {
        Check.wrongAt("g1A", 3);
        Check.wrongAt("g1A;", 3);
        Check.wrongAt("g1A-", 3);
        Check.wrongAt("g1I", 2);
        Check.wrongAt("g1A5", 4);
        Check.wrongAt("g1A5;", 4);
        Check.wrongAt("g1A5-", 5);
        Check.wrongAt("g1A5-;", 5);
        Check.wrongAt("g1A5-B", 5);
        Check.wrongAt("g1A5-4", 5);
        Check.wrongAt("g1A500-40;", 8);
        Check.wrongAt("g1A1-2A", 6);
        Check.wrongAt("g1A1-2B3-4A5-6;", 10);
        Check.wrongAt("g1A100001", 8);
        Check.wrongAt("g1A0-100001", 10);
        Check.wrongAt("g1A0-100000B", 12);
        Check.wrongAt("g1A0-1,", 6);
        Check.wrongAt("g1A0-1<2", 6);
        Check.right("g1A5-5;", 1);
        Check.right("g1A100000-100000H0-0;", 1);
        Check.right("g1H1-2G1-2F1-2E1-2D1-2C1-2B1-2A1-2;", 1);
        Check.wrongAt("g1H1-2G1-2F1-2E1-2D1-2C1-2B1-2A1-2D", 34);
    }

    private static void routes() {
        Check.wrongAt("g1r", 3);
        Check.wrongAt("g1r;", 3);
        Check.wrongAt("g1rA", 3);
        Check.wrongAt("g1r8", 3);
        Check.wrongAt("g1r10", 4);
        Check.wrongAt("g1r11", 4);
        Check.wrongAt("g1r18", 4);
        Check.wrongAt("g1r29", 4);
        Check.wrongAt("g1r01234", 7);
        Check.wrongAt("g1r01239", 7);
        Check.wrongAt("g1r01230", 7);
        Check.wrongAt("g1r0r1", 4);
        Check.wrongAt("g1r0A1-2;", 4);
        Check.wrongAt("g1r0<2;", 4);
        Check.wrongAt("g1r0123", 7);
        Check.right("g1r4567;", 1);
        Check.right("g1r0;", 1);
    }

    private static void limits() {
        Check.wrongAt("g1q", 3);
        Check.wrongAt("g1q;", 3);
        Check.wrongAt("g1q4", 3);
        Check.wrongAt("g1q<", 3);
        Check.wrongAt("g1q0", 4);
        Check.wrongAt("g1q0;", 4);
        Check.wrongAt("g1q00", 4);
        Check.wrongAt("g1q0<", 5);
        Check.wrongAt("g1q0<;", 5);
        Check.wrongAt("g1q0<1000000", 11);
        Check.wrongAt("g1q0<5q0", 7);
        Check.wrongAt("g1q0<5q1<5q0<6;", 11);
        Check.wrongAt("g1q0<5r1;", 6);
        Check.wrongAt("g1q0<5A1-2;", 6);
        Check.wrongAt("g1q3<1q2<1q1<1q0<1q2", 19);
        Check.right("g1q0<999999q1<0;", 1);
        Check.right("g1q3<1q2<1q1<1q0<1;", 1);
    }

    private static void blanks() {
        Check.right(" g 1 < 2 A 3 - 4 r 0 7 q 3 < 5 ; e 3 = A / 2 + B ; ", 1);
        Check.wrongAt("g1 2;", 3);
        Check.wrongAt("g1 <1 2;", 6);
        Check.wrongAt("g1 A1 2-3;", 6);
        Check.wrongAt("e0=A/1 2;", 7);
        Check.wrongAt("g1q0<1 2;", 7);
        Check.wrongAt("g1   ", 5);
        Check.wrongAt("g  ", 3);
        Check.wrongAt("  x", 2);
        Check.wrongAt("g 31 ", 3);
        Check.wrongAt("g1 A 5 - 4 ;", 9);
        Check.wrongAt("g1;g 1 ;", 5);
        Check.wrongAt("g1 A1-2 A 1-2;", 8);
        Check.wrongAt("g1r 1 1 ;", 6);
        Check.wrongAt("e0=A; e 0 ;", 8);
        Check.wrongAt("g1\n;", 2);
    }

    private static void numbers() {
        Check.wrongAt("g01;", 1);
        Check.wrongAt("g1<00", 3);
        Check.wrongAt("g1A05", 4);
        Check.wrongAt("g1A00-1;", 4);
        Check.wrongAt("g1A0-01;", 6);
        Check.wrongAt("g1A5-05;", 5);
        Check.wrongAt("e0=A/05", 5);
        Check.wrongAt("g1q0<00", 6);
        Check.wrongAt("g1A1234567", 8);
        Check.wrongAt("g1A1000000", 9);
        Check.wrongAt("g1A0-1234567", 10);
        Check.wrongAt("g1A0-1000000", 11);
        Check.wrongAt("g1q0<1234567", 11);
        // A number out of its range ends where its digits end, of which it has at most six.
        Check.wrongAt("g310;", 3);
        Check.wrongAt("g1<100;", 5);
        Check.wrongAt("e0=A/210+B;", 7);
        Check.wrongAt("g1234567", 6);
    }

    private static void everyBeginningOfARightText() {
        String text = "e0=A/12+B;e3=C;g12<3A10-20H0-100000r0127q0<999999q3<0;g3B7-7;";
        for (int length = 1; length <= text.length(); length++) {
            String start = text.substring(0, length);
            if (start.endsWith(";")) {
                Check.right(start, start.contains("g3") ? 2 : start.contains("g") ? 1 : 0);
            } else {
                // There the high is below the low, so that the number itself is wrong.
                Check.wrongAt(start, start.endsWith("A10-2") ? length - 1 : length);
            }
        }
    }
}
