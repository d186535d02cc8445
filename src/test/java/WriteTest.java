/** Promises 14 (write) and 15 (at). */
public final class WriteTest {
    public static void main(String[] args) {
        prints("g1;", 1, "g1;");
        prints("g30<30;", 30, "g30<30;");
        prints(" g 1 < 2 A 3 - 4 r 0 7 q 3 < 5 ; e 3 = A / 2 + B ; ", 1, "g1<2A3-4r07q3<5;");
        prints("g10H0-100000A0-0C10-99;", 10, "g10A0-0C10-99H0-100000;");
        prints("g9q3<999999q0<0q2<100;", 9, "g9q0<0q2<100q3<999999;");
        prints("g20r0246;", 20, "g20r0246;");
        prints("g1A1-2r3q0<4;g2<1;", 2, "g2<1;");
        prints("g2<1A5-6;g1<2;", 2, "g2<1A5-6;");
        prints("g2<29;", 2, "g2<29;");
        longestRow();
        latestPrint();
        refusals();
        Check.end();
    }

    private static void prints(String text, int grade, String row) {
        GradeTexts x = Check.of(text);
        Check.same("write of " + text, x.write(grade), row.length());
        Check.same("print of " + text, Check.print(x), row);
    }

    private static void longestRow() {
        StringBuilder row = new StringBuilder("g30<30");
        for (char element = 'A'; element <= 'H'; element++) {
            row.append(element).append("100000-100000");
        }
        row.append("r4567");
        for (char kind = '0'; kind <= '3'; kind++) {
            row.append('q').append(kind).append("<999999");
        }
        prints(row.append(';').toString(), 30, row.toString());
    }

    private static void latestPrint() {
        GradeTexts x = Check.of("g1A10-20;g22;");
        Check.same("without a print", x.at(0), -1);
        x.write(1);
        Check.same("the first byte", x.at(0), (int) 'g');
        Check.same("the last byte", x.at(8), (int) ';');
        Check.same("behind it", x.at(9), -1);
        Check.same("far behind it", x.at(Integer.MAX_VALUE), -1);
        x.write(22);
        Check.same("a shorter print", Check.print(x), "g22;");
        Check.same("behind the shorter print", x.at(4), -1);
        Check.index("no such grade", () -> x.write(2));
        Check.same("a refusal leaves the print", Check.print(x), "g22;");
        Check.read(x, "g5;");
        Check.same("a reading leaves the print", Check.print(x), "g22;");
        x.clear();
        Check.same("clear leaves the print", Check.print(x), "g22;");
    }

    private static void refusals() {
        GradeTexts x = Check.of("g1;g30;");
        for (int grade : new int[] {Integer.MIN_VALUE, -1, 0, 2, 31, 33, Integer.MAX_VALUE}) {
            Check.index("write of " + grade, () -> x.write(grade));
        }
        for (int i : new int[] {Integer.MIN_VALUE, -1}) {
            Check.index("at " + i, () -> x.at(i));
        }
    }
}
