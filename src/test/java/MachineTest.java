import java.util.Random;

/** No call throws anything but what the document names, whatever its arguments and the state. */
public final class MachineTest {
    private static final int[] ODD = {
        Integer.MIN_VALUE, -100001, -32, -31, -2, -1, 0, 1, 2, 3, 4, 5, 6, 7, 8, 9, 29, 30, 31, 32, 33,
        399, 400, 401, 99999, 100000, 100001, Integer.MAX_VALUE,
    };
    private static final String SIGNS = "eg=+/<-rq;ABCDEFGH0123456789 ";
    private static final String[] TEXTS = {
        "e0=A+B/6+C/15;e2=H/20;g1A1-2r137q0<400;g2<1A0-180q2<3;g3<2B0-2000;g30<30;",
        "e1=A/7+B/11+C/13+D/17+E/19+F/20+G/9+H/16;g5<6;g6<7;g7<5;g8<5q1<1;",
        "",
    };

    public static void main(String[] args) {
        Random random = new Random(20261115);
        for (int run = 0; run < 2000; run++) {
            GradeTexts x = new GradeTexts();
            // A text takes up to 11 calls, and the document promises 512.
            for (int calls = 0; calls <= 512 - 11; calls++) {
                calls += any(x, random);
            }
        }
        Check.end();
    }

    /** Makes a call, or several ones: how many it made more than one. */
    private static int any(GradeTexts x, Random random) {
        int which = random.nextInt(18);
        int a = odd(random);
        int b = odd(random);
        int c = odd(random);
        int d = odd(random);
        switch (which) {
            case 0: see("sign", "AU", () -> x.sign(random.nextLong(), a)); break;
            case 1: see("sign", "U", () -> x.sign(SIGNS.charAt(random.nextInt(SIGNS.length())), 1)); break;
            case 2: see("read", "", () -> x.read()); break;
            case 3: see("span", "I", () -> x.span(a, b, c)); break;
            case 4: see("limit", "I", () -> x.limit(a, b)); break;
            case 5: see("equivalent", "IS", () -> x.equivalent(a, b, c, d)); break;
            case 6: see("share", "IA", () -> { x.share(a, b); return 0; }); break;
            case 7: see("value", "IS", () -> x.value(a, b)); break;
            case 8: see("fits", "I", () -> x.fits(a)); break;
            case 9: see("holds", "I", () -> x.holds(a, b)); break;
            case 10: see("ring", "I", () -> x.ring(a)); break;
            case 11: see("route", "I", () -> x.route(a, b)); break;
            case 12: see("difference", "I", () -> x.difference(a, b, c)); break;
            case 13: see("write", "I", () -> x.write(a)); break;
            case 14: see("at", "I", () -> x.at(a)); break;
            case 15: see("clear", "", () -> { x.clear(); return random.nextInt(); }); break;
            default: see("a text", "U", () -> mutatedText(x, random)); return 10;
        }
        return 0;
    }

    private static int mutatedText(GradeTexts x, Random random) {
        StringBuilder text = new StringBuilder(TEXTS[random.nextInt(TEXTS.length)]);
        for (int left = random.nextInt(3); left > 0 && text.length() > 0; left--) {
            text.setCharAt(random.nextInt(text.length()), SIGNS.charAt(random.nextInt(SIGNS.length())));
        }
        return Check.read(x, text.toString());
    }

    private static int odd(Random random) {
        return random.nextInt(3) == 0 ? ODD[random.nextInt(ODD.length)] : random.nextInt(9);
    }

    /** Letters: I index, S turn, A range, U meaning. */
    private static void see(String name, String may, Check.Call call) {
        String answer = Check.answer(call);
        boolean fine = !answer.startsWith("throws.")
            || may.contains("I") && answer.equals("throws.IndexOutOfBoundsException")
            || may.contains("S") && answer.equals("throws.IllegalStateException")
            || may.contains("A") && answer.equals("throws.IllegalArgumentException")
            || may.contains("U") && answer.equals("throws.UnsupportedOperationException");
        Check.same(name, fine ? "fine" : answer, "fine");
    }
}
