import java.io.IOException;
import java.nio.file.Files;
import java.nio.file.Path;
import java.util.List;

/** README.md tells every call of the face and the sentences that bind its user; its example is true. */
public final class ReadmeTest {
    private static final int FACE_SIZE = 21;
    private static final String[] SENTENCES = {
        "NUMBERS are those of the FIELD of the integers modulo P = 2147483647: told as any int (what it is modulo P, "
            + "0 .. P - 1), answered as 0 .. P - 1.",
        "Calls with bodies that are not there are refused, changing nothing.",
        "An object is used for at most 512 calls after it has been made; what later calls answer is free.",
    };

    public static void main(String[] args) throws IOException {
        Check check = new Check();
        tellsTheFace(check);
        quotesTheSentences(check);
        showsTheExample(check);
        runTheExample(check);
        check.end();
    }

    /** The face is read from the class, which FaceTest holds against the document's. */
    private static void tellsTheFace(Check check) throws IOException {
        String readme = Files.readString(Path.of("README.md"));
        int told = 0;
        for (String line : Files.readAllLines(Path.of("src/main/java/LimbWorks.java"))) {
            if (line.startsWith("    public ")) {
                String member = line.strip().replace("public ", "").replace("static final ", "")
                    .replaceAll("( = -1;| \\{)$", "");
                check.due("README.md tells " + member, readme.contains("`" + member + "`"), true);
                told++;
            }
        }
        check.due("members of the face", told, FACE_SIZE);
    }

    private static void quotesTheSentences(Check check) throws IOException {
        String readme = Files.readString(Path.of("README.md")).replaceAll("\\s+", " ");
        for (String sentence : SENTENCES) {
            check.due("README.md says: " + sentence, readme.contains("\"" + sentence + "\""), true);
        }
    }

    /** The calls below are those that README.md shows, so that neither can go its own way. */
    private static void showsTheExample(Check check) throws IOException {
        List<String> here = Files.readAllLines(Path.of("src/test/java/ReadmeTest.java"));
        int at = firstLineWith(here, "private static void runTheExample");
        List<String> readme = Files.readAllLines(Path.of("README.md"));
        int shown = 0;
        for (int k = firstLineWith(readme, "```java") + 1; !readme.get(k).equals("```"); k++) {
            String call = readme.get(k).replaceAll("//.*", "").strip();
            shown++;
            check.due("README.md's '" + call + "' is run here", here.get(at + shown).strip().equals(call), true);
        }
        check.due("the example ends where it does in README.md", here.get(at + shown + 1).isBlank(), true);
    }

    private static int firstLineWith(List<String> lines, String text) {
        int at = 0;
        while (at < lines.size() && !lines.get(at).stripLeading().startsWith(text)) {
            at++;
        }
        return at;
    }

    private static void runTheExample(Check check) {
        LimbWorks x = new LimbWorks();
        int arm = x.body(0, false);
        x.mass(arm, 3);
        x.centre(arm, 2, 0, 0);
        x.inertia(arm, 0, 0, 4);
        x.gravity(0, -10, 0);
        x.torque(arm, 76);
        int there = x.forward();
        int a = x.acceleration(arm);
        x.step(1);
        int high = x.where(arm, 4);
        int twice = x.energy();
        int gone = x.needs(2);

        check.due("the example's arm", arm, 1);
        check.due("the example's forward", there, 1);
        check.due("the example's acceleration", a, 1);
        check.due("the example's where", high, 2);
        check.due("the example's energy", twice, 16);
        check.due("the example's needs", gone, LimbWorks.NONE);
    }
}
