import java.io.IOException;
import java.nio.file.Files;
import java.nio.file.Path;
import java.util.List;
import java.util.regex.Matcher;
import java.util.regex.Pattern;
import java.util.stream.Collectors;
import java.util.stream.Stream;

/** Every promise and every part of the terms is named by a test that asks about a sentence of it. */
public final class SentencesTest {
    private static final Check C = new Check("SentencesTest");
    private static final Pattern NAMED = Pattern.compile("C\\.sentence\\(\"([^\"]+)\",");

    public static void main(String[] args) throws IOException {
        int[] promises = new int[30];
        int[] terms = new int[5];
        int all = 0;
        for (Path file : tests()) {
            Matcher m = NAMED.matcher(Files.readString(file));
            while (m.find()) {
                all++;
                String[] part = m.group(1).split(" ");
                if (part[0].equals("Promise")) {
                    promises[Integer.parseInt(part[1])]++;
                } else if (part[0].equals("Terms")) {
                    terms[Integer.parseInt(part[1])]++;
                }
            }
        }
        for (int p = 1; p <= 29; p++) {
            C.due("a test of promise " + p, promises[p] > 0 ? 1 : 0, 1);
        }
        for (int t = 1; t <= 4; t++) {
            C.due("tests of the terms' part " + t, terms[t] >= 10 ? 1 : 0, 1);
        }
        System.out.println("SentencesTest: " + all + " sentences are asked about in all");
        C.finish();
    }

    private static List<Path> tests() throws IOException {
        try (Stream<Path> files = Files.list(Path.of("src/test/java"))) {
            return files.filter(f -> f.toString().endsWith("Test.java")).sorted().collect(Collectors.toList());
        }
    }
}
