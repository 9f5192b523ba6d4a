import java.io.IOException;
import java.nio.charset.StandardCharsets;
import java.nio.file.Files;
import java.nio.file.Path;
import java.nio.file.Paths;
import java.util.ArrayList;
import java.util.List;
import java.util.regex.Matcher;
import java.util.regex.Pattern;
import java.util.stream.Collectors;
import java.util.stream.Stream;

/** Each promise of the document is told, whole or in part, by a test of its own (Due.of). */
public final class SentencesTest {
  private static final Pattern PROMISE = Pattern.compile("## Promise (\\d+): \\w[^\n]*\n\n`[^`]*`: ([^\n]*)");
  private static final Pattern QUOTED = Pattern.compile("Due\\.of\\(\"((?:[^\"\\\\]|\\\\.)*)\"\\)");

  public static void main(String[] args) throws IOException {
    List<String> quoted = quotedByTests();
    Matcher promise = PROMISE.matcher(textOf(Paths.get("../shared/DOC.md")));
    int found = 0;
    while (promise.find()) {
      found++;
      String words = promise.group(2);
      Due.isTrue("Promise " + promise.group(1) + " is quoted: " + words, quoted.stream().anyMatch(words::contains));
    }
    Due.is("promises found", found, 38);
    Due.done();
  }

  private static List<String> quotedByTests() throws IOException {
    List<Path> files;
    try (Stream<Path> all = Files.list(Paths.get("src/test/java"))) {
      files = all.filter(file -> file.toString().endsWith("Test.java")).sorted().collect(Collectors.toList());
    }
    List<String> quoted = new ArrayList<>();
    for (Path file : files) {
      Matcher quote = QUOTED.matcher(textOf(file));
      while (quote.find()) quoted.add(quote.group(1));
    }
    return quoted;
  }

  private static String textOf(Path file) throws IOException {
    return new String(Files.readAllBytes(file), StandardCharsets.UTF_8);
  }
}
