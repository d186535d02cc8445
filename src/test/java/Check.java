import java.nio.charset.StandardCharsets;

/** What the tests share: telling texts, comparing answers, and ending with 1 when one was wrong. */
final class Check {
    interface Call {
        Object make();
    }

    private static int wrong = 0;
    private static int made = 0;

    private Check() {
    }

    /** Puts a text on the tape, eight bytes a call. */
    static void tell(GradeTexts x, String text) {
        byte[] bytes = text.getBytes(StandardCharsets.ISO_8859_1);
        for (int from = 0; from < bytes.length; from += 8) {
            int n = Math.min(8, bytes.length - from);
            long word = 0;
            for (int i = 0; i < n; i++) {
                word = word << 8 | bytes[from + i] & 255;
            }
            x.sign(word, n);
        }
    }

    static int read(GradeTexts x, String text) {
        tell(x, text);
        return x.read();
    }

    /** A new object that has read a right text. */
    static GradeTexts of(String text) {
        GradeTexts x = new GradeTexts();
        int answer = read(x, text);
        if (answer < 0) {
            same("reading " + text, answer, "no wrong place");
        }
        return x;
    }

    /** The latest print, as far as at tells it. */
    static String print(GradeTexts x) {
        StringBuilder text = new StringBuilder();
        for (int i = 0; x.at(i) >= 0; i++) {
            text.append((char) x.at(i));
        }
        return text.toString();
    }

    static void same(String what, Object got, Object want) {
        made++;
        if (!String.valueOf(got).equals(String.valueOf(want))) {
            wrong++;
            System.out.println(what + " answered " + got + ", due is " + want);
        }
    }

    static void index(String what, Call call) {
        same(what, answer(call), "throws.IndexOutOfBoundsException");
    }

    static void turn(String what, Call call) {
        same(what, answer(call), "throws.IllegalStateException");
    }

    static void range(String what, Call call) {
        same(what, answer(call), "throws.IllegalArgumentException");
    }

    static void meaning(String what, Call call) {
        same(what, answer(call), "throws.UnsupportedOperationException");
    }

    /** The answer, or the very class that is thrown: one below it is the machine's and not the same. */
    static String answer(Call call) {
        try {
            return String.valueOf(call.make());
        } catch (RuntimeException e) {
            return "throws." + e.getClass().getSimpleName();
        }
    }

    static void end() {
        System.out.println(wrong == 0 ? made + " answers are as due" : wrong + " answers are not as due");
        if (wrong != 0) {
            System.exit(1);
        }
    }
}
