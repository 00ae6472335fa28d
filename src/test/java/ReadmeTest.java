import java.io.IOException;
import java.nio.file.DirectoryStream;
import java.nio.file.Files;
import java.nio.file.Path;
import java.util.ArrayList;
import java.util.List;

/** README.md's example is the one here, line for line, and answers what its comments say. */
public final class ReadmeTest {
    private static final Path README = Path.of("README.md");
    private static final Path THIS = Path.of("src/test/java/ReadmeTest.java");

    public static void main(String[] args) throws IOException {
        List<String> told = between(README, "```java", "```");
        List<String> run = between(THIS, "// example", "// end");
        Check.same("README.md's example", run, () -> told);
        Check.same("its answers", toldAnswers(told), ReadmeTest::example);
        eachTestIsNamed();
        Check.finish();
    }

    private static List<String> example() {
        // example
        CaneSlices shop = new CaneSlices();
        int cane = shop.begin();                     // 0
        boolean laid = shop.lay(cane, 2, 6, 4, 5);   // true: colour 5 in the rim's sectors 6, 7, 0, 1
        boolean twisted = shop.twist(cane, 1);       // true: each place is turned by 1 sector more
        int heat = shop.rest(10);                    // 0: cold enough, a cut takes 3 or less
        int shown = shop.shows(cane, 7, 2, 5);       // 5: turned by 7, it is in 5, 6, 7, 0
        int slice = shop.cut(cane);                  // 0: the slice of the last place, 7
        int other = shop.cut(cane);                  // 1: that of the place 6
        int bead = shop.bead();                      // 0
        int filled = shop.set(bead, 0, slice, 3);    // 1: eye 0 has a slice, turned by 3 sectors
        int seen = shop.seen(bead, 0, 2, 0);         // 5: turned by 3 more, it is in 0, 1, 2, 3
        int mends = shop.mends(bead);                // -1: three eyes are empty, one slice is free
        int before = shop.furnace(cane);             // -1: it was empty
        int heated = shop.rest(2);                   // 6: too hot now
        String why = "";
        try {
            shop.cut(cane);
        } catch (IllegalStateException refused) {
            why = refused.getMessage();              // the cane is used up, or too hot
        }
        // end
        Object[] answers = {
            cane, laid, twisted, heat, shown, slice, other, bead, filled, seen, mends, before, heated, why
        };
        List<String> texts = new ArrayList<>();
        for (Object answer : answers) {
            texts.add(String.valueOf(answer));
        }
        return texts;
    }

    /** What stands behind a line, up to a colon. */
    private static List<String> toldAnswers(List<String> lines) {
        List<String> answers = new ArrayList<>();
        for (String line : lines) {
            int comment = line.indexOf("// ");
            if (comment >= 0) {
                answers.add(line.substring(comment + 3).split(":")[0]);
            }
        }
        return answers;
    }

    /** The lines between these two, without what they are indented by. */
    private static List<String> between(Path file, String first, String last) throws IOException {
        List<String> found = new ArrayList<>();
        boolean inside = false;
        for (String line : Files.readAllLines(file)) {
            if (inside && line.trim().equals(last)) {
                return found;
            }
            if (inside) {
                found.add(line.trim());
            }
            inside = inside || line.trim().equals(first);
        }
        return found;
    }

    private static void eachTestIsNamed() throws IOException {
        String readme = Files.readString(README);
        try (DirectoryStream<Path> tests = Files.newDirectoryStream(THIS.getParent(), "*Test.java")) {
            for (Path test : tests) {
                String name = test.getFileName().toString().replace(".java", "");
                Check.same(name + " in README.md", true, () -> readme.contains("| `" + name + "` |"));
            }
        }
    }
}
