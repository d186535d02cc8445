import java.math.BigInteger;
import java.util.ArrayList;
import java.util.Arrays;
import java.util.List;
import java.util.Map;
import java.util.Random;
import java.util.TreeMap;

/** Random texts, right ones and spoilt ones, whose answers are compared with those of a plain model. */
public final class ModelTest {
    /** A grade as it was told: nothing is found out ahead of a question. */
    private static final class Grade {
        int number;
        Integer parent;
        final Map<Integer, int[]> spans = new TreeMap<>();
        List<Integer> routes = null;
        final Map<Integer, Integer> limits = new TreeMap<>();
    }

    private static final class Model {
        final Map<Integer, Grade> grades = new TreeMap<>();
        final Map<Integer, Map<Integer, Integer>> formulas = new TreeMap<>();

        boolean onRing(int number) {
            List<Integer> way = new ArrayList<>();
            Integer next = grades.get(number).parent;
            while (next != null && grades.containsKey(next) && !way.contains(next)) {
                way.add(next);
                next = grades.get(next).parent;
            }
            return way.contains(number);
        }

        Grade parent(Grade grade) {
            return grade.parent == null || onRing(grade.number) ? null : grades.get(grade.parent);
        }

        int[] span(Grade grade, int element) {
            if (grade == null) {
                return new int[] {0, 100000};
            }
            int[] own = grade.spans.get(element);
            return own != null ? own : span(parent(grade), element);
        }

        int limit(Grade grade, int kind) {
            if (grade == null) {
                return -1;
            }
            Integer own = grade.limits.get(kind);
            return own != null ? own : limit(parent(grade), kind);
        }

        List<Integer> routes(Grade grade) {
            if (grade == null) {
                return new ArrayList<>();
            }
            return grade.routes != null ? grade.routes : routes(parent(grade));
        }

        int[] ends(Grade grade, int end) {
            int[] row = new int[8];
            for (int element = 0; element < 8; element++) {
                row[element] = span(grade, element)[end];
            }
            return row;
        }

        /** Upper and lower number in lowest terms, by adding one fraction after the other. */
        BigInteger[] sum(int kind, int[] row) {
            BigInteger upper = BigInteger.ZERO;
            BigInteger lower = BigInteger.ONE;
            for (Map.Entry<Integer, Integer> term : formulas.get(kind).entrySet()) {
                BigInteger divisor = BigInteger.valueOf(term.getValue());
                upper = upper.multiply(divisor).add(lower.multiply(BigInteger.valueOf(row[term.getKey()])));
                lower = lower.multiply(divisor);
            }
            BigInteger common = upper.gcd(lower);
            return new BigInteger[] {upper.divide(common), lower.divide(common)};
        }

        int kindAbove(Grade grade, int[] row) {
            for (int kind = 0; kind < 4; kind++) {
                int most = limit(grade, kind);
                if (most >= 0 && formulas.containsKey(kind)) {
                    BigInteger[] sum = sum(kind, row);
                    if (sum[0].compareTo(sum[1].multiply(BigInteger.valueOf(most))) > 0) {
                        return kind;
                    }
                }
            }
            return -1;
        }

        int fits(Grade grade, int[] shares) {
            for (int element = 0; element < 8; element++) {
                int[] span = span(grade, element);
                if (shares[element] < span[0] || shares[element] > span[1]) {
                    return element;
                }
            }
            int kind = kindAbove(grade, shares);
            return kind < 0 ? -1 : 8 + kind;
        }

        boolean holds(Grade grade, Grade other) {
            for (int element = 0; element < 8; element++) {
                if (span(other, element)[0] < span(grade, element)[0]
                        || span(other, element)[1] > span(grade, element)[1]) {
                    return false;
                }
            }
            return kindAbove(grade, ends(other, 1)) < 0;
        }
    }

    private static final Random RANDOM = new Random(4711);
    private static final String SIGNS = "eg=+/<-rq;ABCDEFGH0123456789 ";

    public static void main(String[] args) {
        for (int run = 0; run < 400; run++) {
            rightText();
        }
        for (int run = 0; run < 4000; run++) {
            spoiltText();
        }
        Check.end();
    }

    private static int below(int bound) {
        return RANDOM.nextInt(bound);
    }

    private static Model model() {
        Model model = new Model();
        for (int kind = 0; kind < 4; kind++) {
            if (below(3) > 0) {
                Map<Integer, Integer> terms = new TreeMap<>();
                for (int left = 1 + below(4); left > 0; left--) {
                    terms.put(below(8), below(3) == 0 ? 1 : 1 + below(20));
                }
                model.formulas.put(kind, terms);
            }
        }
        int most = 1 + below(30);
        for (int left = below(9); left > 0; left--) {
            Grade grade = grade(most);
            model.grades.put(grade.number, grade);
        }
        return model;
    }

    private static Grade grade(int most) {
        Grade grade = new Grade();
        grade.number = 1 + below(most);
        grade.parent = below(4) == 0 ? null : Integer.valueOf(1 + below(most));
        int scale = below(2) == 0 ? 12 : 100001;
        for (int left = below(3); left > 0; left--) {
            int low = below(scale);
            grade.spans.put(below(8), new int[] {low, low + below(scale - low)});
        }
        if (below(3) == 0) {
            grade.routes = new ArrayList<>();
            for (int route = below(5); route < 8 && grade.routes.size() < 4; route += 1 + below(4)) {
                grade.routes.add(route);
            }
        }
        for (int left = below(3); left > 0; left--) {
            grade.limits.put(below(4), below(2) == 0 ? below(20) : below(1000000));
        }
        return grade;
    }

    private static String blank(boolean blanks) {
        return blanks && below(5) == 0 ? " ".repeat(1 + below(2)) : "";
    }

    /** The row of a grade, as it is printed or, shuffled and with blanks, as it may be told. */
    private static String row(Grade grade, boolean told) {
        StringBuilder text = new StringBuilder();
        text.append("g").append(blank(told)).append(grade.number).append(blank(told));
        if (grade.parent != null) {
            text.append("<").append(blank(told)).append(grade.parent).append(blank(told));
        }
        for (int element : keys(grade.spans, told)) {
            int[] span = grade.spans.get(element);
            text.append((char) ('A' + element)).append(blank(told)).append(span[0]).append(blank(told)).append("-");
            text.append(blank(told)).append(span[1]).append(blank(told));
        }
        if (grade.routes != null) {
            text.append("r");
            for (int route : grade.routes) {
                text.append(blank(told)).append(route);
            }
        }
        for (int kind : keys(grade.limits, told)) {
            text.append(blank(told)).append("q").append(blank(told)).append(kind).append("<");
            text.append(blank(told)).append(grade.limits.get(kind));
        }
        return text.append(blank(told)).append(";").append(blank(told)).toString();
    }

    private static List<Integer> keys(Map<Integer, ?> map, boolean shuffled) {
        List<Integer> keys = new ArrayList<>(map.keySet());
        if (shuffled) {
            java.util.Collections.shuffle(keys, RANDOM);
        }
        return keys;
    }

    private static String text(Model model) {
        List<String> rows = new ArrayList<>();
        for (int kind : model.formulas.keySet()) {
            StringBuilder row = new StringBuilder("e" + blank(true) + kind + "=");
            String between = "";
            for (int element : keys(model.formulas.get(kind), true)) {
                int divisor = model.formulas.get(kind).get(element);
                row.append(between).append(blank(true)).append((char) ('A' + element)).append(blank(true));
                row.append(divisor == 1 ? "" : "/" + blank(true) + divisor);
                between = "+";
            }
            rows.add(row + blank(true) + ";");
        }
        for (Grade grade : model.grades.values()) {
            rows.add(row(grade, true));
        }
        java.util.Collections.shuffle(rows, RANDOM);
        return String.join("", rows);
    }

    private static void rightText() {
        Model model = model();
        String text = text(model);
        if (text.length() > 400) {
            return;
        }
        GradeTexts x = new GradeTexts();
        Check.same("read of " + text, Check.read(x, text), model.grades.size());
        int[] shares = new int[8];
        for (int element = 0; element < 8; element++) {
            shares[element] = below(below(2) == 0 ? 12 : 100001);
        }
        values(text, withShares(text, shares), model, shares);
        for (Grade grade : model.grades.values()) {
            oneGrade(text, withShares(text, shares), model, grade, shares);
            GradeTexts pairs = Check.of(text);
            for (Grade other : model.grades.values()) {
                twoGrades(text, pairs, model, grade, other);
            }
        }
        List<Integer> rings = new ArrayList<>();
        for (int number : model.grades.keySet()) {
            if (model.onRing(number)) {
                rings.add(number);
            }
        }
        Check.same("rings of " + text, list(k -> x.ring(k)), rings);
    }

    /** An object of its own for each of many questions, as one is good for 512 calls. */
    private static GradeTexts withShares(String text, int[] shares) {
        GradeTexts x = Check.of(text);
        for (int element = 0; element < 8; element++) {
            x.share(element, shares[element]);
        }
        return x;
    }

    private interface Row {
        int at(int k);
    }

    private static List<Integer> list(Row row) {
        List<Integer> all = new ArrayList<>();
        for (int k = 0; row.at(k) >= 0; k++) {
            all.add(row.at(k));
        }
        return all;
    }

    private static void values(String text, GradeTexts x, Model model, int[] shares) {
        for (int kind = 0; kind < 4; kind++) {
            int k = kind;
            if (model.formulas.containsKey(kind)) {
                BigInteger[] sum = model.sum(kind, shares);
                Check.same("value of " + text, x.value(k, 0) + "/" + x.value(k, 1), sum[0] + "/" + sum[1]);
            } else {
                Check.turn("value of " + text, () -> x.value(k, 0));
            }
        }
    }

    private static void oneGrade(String text, GradeTexts x, Model model, Grade grade, int[] shares) {
        int g = grade.number;
        String of = " of " + g + " in " + text;
        for (int element = 0; element < 8; element++) {
            int[] got = {x.span(g, element, 0), x.span(g, element, 1)};
            Check.same("span" + of, Arrays.toString(got), Arrays.toString(model.span(grade, element)));
        }
        for (int kind = 0; kind < 4; kind++) {
            Check.same("limit" + of, x.limit(g, kind), model.limit(grade, kind));
            for (int end = 0; end < 2 && model.formulas.containsKey(kind); end++) {
                BigInteger[] sum = model.sum(kind, model.ends(grade, end));
                Check.same("upper" + of, x.equivalent(g, kind, end, 0), sum[0]);
                Check.same("lower" + of, x.equivalent(g, kind, end, 1), sum[1]);
            }
        }
        Check.same("routes" + of, list(k -> x.route(g, k)), model.routes(grade));
        Check.same("fits" + of, x.fits(g), model.fits(grade, shares));
        String row = row(grade, false);
        Check.same("write" + of, x.write(g), row.length());
        Check.same("print" + of, Check.print(x), row);
    }

    private static void twoGrades(String text, GradeTexts x, Model model, Grade a, Grade b) {
        String of = " of " + a.number + " and " + b.number + " in " + text;
        Check.same("holds" + of, x.holds(a.number, b.number), model.holds(a, b));
        List<Integer> different = new ArrayList<>();
        for (int element = 0; element < 8; element++) {
            if (!Arrays.equals(model.span(a, element), model.span(b, element))) {
                different.add(element);
            }
        }
        Check.same("differences" + of, list(k -> x.difference(a.number, b.number, k)), different);
    }

    /** What stands behind the wrong place does not count, and what stands ahead of it is not wrong. */
    private static void spoiltText() {
        StringBuilder text = new StringBuilder(text(model()));
        if (text.length() == 0 || text.length() > 390) {
            return;
        }
        for (int left = 1 + below(2); left > 0; left--) {
            char sign = SIGNS.charAt(below(SIGNS.length()));
            int place = below(text.length());
            switch (below(3)) {
                case 0: text.setCharAt(place, sign); break;
                case 1: text.insert(place, sign); break;
                default: text.deleteCharAt(place); text.append(' '); break;
            }
        }
        GradeTexts x = new GradeTexts();
        int answer = Check.read(x, text.toString());
        if (answer >= 0) {
            return;
        }
        int place = -1 - answer;
        Check.same("place in " + text, place <= text.length(), true);
        String start = text.substring(0, Math.min(text.length(), place + 1));
        Check.same("the start alone of " + text, Check.read(x, start), answer);
        int ahead = Check.read(x, text.substring(0, place));
        boolean wrongAhead = ahead < 0 && -1 - ahead < place - 1;
        Check.same("what is ahead in " + text, wrongAhead, false);
    }
}
