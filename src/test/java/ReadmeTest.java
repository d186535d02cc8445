import java.io.IOException;
import java.nio.file.Files;
import java.nio.file.Path;

/** The example in README.md answers what is written there; run from the project's directory. */
public final class ReadmeTest {
    private static final String TEXT = "e0=A+B/6; g1 A100-200 r13 q0<400; g2<1 B0-1200;";

    public static void main(String[] args) throws IOException {
        Check.sentence("README.md, Use");
        String readme = Files.readString(Path.of("README.md"));
        Check.same("the text stands there", readme.contains("\"" + TEXT + "\""), true);
        GradeTexts x = new GradeTexts();
        for (int i = 0; i < TEXT.length(); i++) {
            x.sign(TEXT.charAt(i), 1);
        }
        told(readme, "x.read();", x.read(), "2 grades");
        told(readme, "x.span(2, 0, 1);", x.span(2, 0, 1), "200:");
        told(readme, "x.equivalent(2, 0, 1, 0);", x.equivalent(2, 0, 1, 0), "400,");
        Check.same("the lower number", x.equivalent(2, 0, 1, 1), 1);
        told(readme, "x.holds(1, 2);", x.holds(1, 2), "true");
        x.share(0, 150);
        told(readme, "x.fits(1);", x.fits(1), "-1:");
        told(readme, "x.write(2);", x.write(2), "12 bytes, \"g2<1B0-1200;\"");
        Check.same("the print", Check.print(x), "g2<1B0-1200;");
        Check.end();
    }

    /** The call answers the first word that README.md tells behind it. */
    private static void told(String readme, String call, Object answer, String words) {
        int place = readme.indexOf("\n" + call);
        Check.same(call + " stands there", place >= 0, true);
        if (place >= 0) {
            String line = readme.substring(place + 1, readme.indexOf('\n', place + 1));
            Check.same(call + " tells " + words, line.contains("// " + words), true);
        }
        Check.same(call, answer, words.split("[ ,:]")[0]);
    }
}
