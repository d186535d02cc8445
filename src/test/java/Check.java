import java.nio.charset.StandardCharsets;

/** What the tests share: telling texts, comparing answers, and ending with 1 when one was wrong. */
final class Check {
    interface Call {
        Object make();
    }

    private static int wrong = 0;
    private static int made = 0;
    private static String sentence = "";

    private Check() {
    }

    /** The document's sentence that the answers from here on are about. */
    static void sentence(String words) {
        sentence = "\"" + words + "\": ";
    }

    /** Puts a text on the tape, eight bytes a call. */
    static void tell(GradeTexts x, String text) {
        byte[] bytes = text.getBytes(StandardCharsets.ISO_8859_1);
        for (int from = 0; from < bytes.length; from += 8) {
            int n = Math.min(8, bytes.length - from);
            long word = 0;
            for (int i = 0; i < n; i++) {
                word = word << 8 | bytes[from + i] & 255;
            }
            x.sign(word, n);
        }
    }

    static int read(GradeTexts x, String text) {
        tell(x, text);
        return x.read();
    }

    /** A new object is wrong at the place when it reads the text. */
    static void wrongAt(String text, int place) {
        same("read of \"" + text + "\"", read(new GradeTexts(), text), -1 - place);
    }

    /** A new object reads so many grades from the text. */
    static void right(String text, int grades) {
        same("read of \"" + text + "\"", read(new GradeTexts(), text), grades);
    }

    /** A new object that has read a right text. */
    static GradeTexts of(String text) {
        GradeTexts x = new GradeTexts();
        int answer = read(x, text);
        if (answer < 0) {
            same("reading " + text, answer, "no wrong place");
        }
        return x;
    }

    /** The latest print, as far as at tells it. */
    static String print(GradeTexts x) {
        StringBuilder text = new StringBuilder();
        int sign = x.at(0);
        for (int i = 1; sign >= 0; i++) {
            text.append((char) sign);
            sign = x.at(i);
        }
        return text.toString();
    }

    static void same(String what, Object got, Object want) {
        made++;
        if (!String.valueOf(got).equals(String.valueOf(want))) {
            wrong++;
            System.out.println(sentence + what + " answered " + got + ", due is " + want);
        }
    }

    static String span(GradeTexts x, int grade, int element) {
        return x.span(grade, element, 0) + "-" + x.span(grade, element, 1);
    }

    /** All routes of a grade, one behind the other. */
    static String routes(GradeTexts x, int grade) {
        StringBuilder text = new StringBuilder();
        int route = x.route(grade, 0);
        for (int k = 1; route >= 0; k++) {
            text.append(route);
            route = x.route(grade, k);
        }
        return text.toString();
    }

    static String equivalent(GradeTexts x, int grade, int kind, int end) {
        return x.equivalent(grade, kind, end, 0) + "/" + x.equivalent(grade, kind, end, 1);
    }

    static String value(GradeTexts x, int kind) {
        return x.value(kind, 0) + "/" + x.value(kind, 1);
    }

    static void index(String what, Call call) {
        same(what, answer(call), "throws.IndexOutOfBoundsException");
    }

    static void turn(String what, Call call) {
        same(what, answer(call), "throws.IllegalStateException");
    }

    static void range(String what, Call call) {
        same(what, answer(call), "throws.IllegalArgumentException");
    }

    static void meaning(String what, Call call) {
        same(what, answer(call), "throws.UnsupportedOperationException");
    }

    /** The answer, or the very class that is thrown: one below it is the machine's and not the same. */
    static String answer(Call call) {
        try {
            return String.valueOf(call.make());
        } catch (RuntimeException e) {
            return "throws." + e.getClass().getSimpleName();
        }
    }

    static void end() {
        System.out.println(wrong == 0 ? made + " answers are as due" : wrong + " answers are not as due");
        if (wrong != 0) {
            System.exit(1);
        }
    }
}
