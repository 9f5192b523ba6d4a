import java.io.IOException;
import java.nio.charset.StandardCharsets;
import java.nio.file.Files;
import java.nio.file.Path;
import java.nio.file.Paths;
import java.util.ArrayList;
import java.util.List;
import java.util.regex.Matcher;
import java.util.regex.Pattern;
import java.util.stream.Collectors;
import java.util.stream.Stream;

/** Each promise of the document is told by a test of its own (Due.of), and so is all of "Terms". */
public final class SentencesTest {
  private static final Pattern PROMISE = Pattern.compile("## Promise (\\d+): \\w[^\n]*\n\n`[^`]*`: ([^\n]*)");
  private static final Pattern TERMS = Pattern.compile("## Terms\n(.*?)\nAhead of the calls", Pattern.DOTALL);
  private static final Pattern QUOTED = Pattern.compile("Due\\.of\\(\"((?:[^\"\\\\]|\\\\.)*)\"\\)");
  /** Headings as "1. PEOPLE 0, 1, .." may stand unquoted; a sentence is longer. */
  private static final int LONGEST_UNQUOTED = 20;

  public static void main(String[] args) throws IOException {
    List<String> quoted = quotedByTests();
    String document = textOf(Paths.get("../shared/DOC.md"));
    Matcher promise = PROMISE.matcher(document);
    int found = 0;
    while (promise.find()) {
      found++;
      String words = oneLine(promise.group(2));
      Due.isTrue("Promise " + promise.group(1) + " is quoted: " + words, quoted.stream().anyMatch(words::contains));
      allIsQuoted("Promise " + promise.group(1), words, quoted);
    }
    Due.is("promises found", found, 38);
    Matcher terms = TERMS.matcher(document);
    boolean isThere = terms.find();
    Due.isTrue("Terms are found", isThere);
    if (isThere) allIsQuoted("Terms", oneLine(terms.group(1)), quoted);
    Due.done();
  }

  private static void allIsQuoted(String place, String words, List<String> quoted) {
    boolean[] isQuoted = new boolean[words.length() + 1];
    for (String quote : quoted) {
      for (int at = words.indexOf(quote); at >= 0; at = words.indexOf(quote, at + 1)) {
        for (int i = 0; i < quote.length(); i++) isQuoted[at + i] = true;
      }
    }
    isQuoted[words.length()] = true;
    int start = 0;
    for (int i = 0; i <= words.length(); i++) {
      if (!isQuoted[i]) continue;
      String between = words.substring(start, i);
      if (!between.isEmpty()) Due.isTrue(place + " is quoted, too: " + between, between.trim().length() <= LONGEST_UNQUOTED);
      start = i + 1;
    }
  }

  private static List<String> quotedByTests() throws IOException {
    List<Path> files;
    try (Stream<Path> all = Files.list(Paths.get("src/test/java"))) {
      files = all.filter(file -> file.toString().endsWith("Test.java")).sorted().collect(Collectors.toList());
    }
    List<String> quoted = new ArrayList<>();
    for (Path file : files) {
      Matcher quote = QUOTED.matcher(textOf(file));
      while (quote.find()) quoted.add(oneLine(quote.group(1)));
    }
    return quoted;
  }

  private static String oneLine(String text) {
    return text.replace("`", "").replaceAll("\\s+", " ");
  }

  private static String textOf(Path file) throws IOException {
    return new String(Files.readAllBytes(file), StandardCharsets.UTF_8);
  }
}
