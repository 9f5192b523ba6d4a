import java.io.IOException;
import java.nio.charset.StandardCharsets;
import java.nio.file.Files;
import java.nio.file.Paths;
import java.util.regex.Matcher;
import java.util.regex.Pattern;

/** What of ../shared/LANGUAGE.md can be seen in the source's signs; run from the checkout's root. */
public final class LanguageTest {
  private static final String[] FORBIDDEN = {
    "\\b(throw|throws|try|catch|synchronized|assert|volatile|native|transient)\\b", "->", "::",
    "\\b(record|sealed|permits|yield|var)\\s+\\w", "\\bpackage\\b", "\\bprotected\\b",
    "\\b(hashCode|toString|equals|getClass|println|printf)\\s*\\(", "\\w+Exact\\b",
    "\\b(Random|Thread|Object|Scanner|File|Map|HashMap|Set|HashSet|Optional|Stream)\\b",
    "System\\.(?!arraycopy\\b)", "Arrays\\.(?!fill\\b|copyOf\\b|copyOfRange\\b)",
    "\"\\s*\\+", "\\+\\s*\"", "\\bstatic\\s*\\{", "@", "while\\s*\\(true\\)", "for\\s*\\(;;\\)",
  };

  public static void main(String[] args) throws IOException {
    String source = new String(Files.readAllBytes(Paths.get("src/main/java/WellRefuses.java")), StandardCharsets.ISO_8859_1);
    for (int i = 0; i < source.length(); i++) {
      char c = source.charAt(i);
      if (c != '\n' && (c < 32 || c > 126)) Due.isTrue("sign " + (int) c + " at " + i, false);
    }
    String code = source.replaceAll("(?s)/\\*.*?\\*/", "").replaceAll("//[^\n]*", "");
    for (String forbidden : FORBIDDEN) Due.is(forbidden, many(forbidden, code), 0);
    imports(code);
    Due.isTrue("some twelve classes", many("\\b(class|enum|interface)\\s+\\w", code) <= 12);
    Due.is("classes inside are private, static, final", many("\n  private static final class ", code), many("\\bclass ", code) - 1);
    Due.is("static fields are final", many("\\bstatic (?!final\\b)[\\w\\[\\]]+ \\w+( =|;)", code), 0);
    methods(code);
    Due.done();
  }

  private static void imports(String code) {
    Matcher matcher = Pattern.compile("import ([^;]*);").matcher(code);
    while (matcher.find()) {
      Due.isTrue("import " + matcher.group(1), matcher.group(1).matches("java\\.util\\.(Arrays|ArrayList|List|Iterator)"));
    }
  }

  private static void methods(String code) {
    Matcher matcher = Pattern.compile("\n( +)(?!return|else|for|while)[\\w\\[\\] ]*\\w+\\(([^()]*)\\) \\{\n").matcher(code);
    int found = 0;
    while (matcher.find()) {
      if (matcher.group(0).matches("(?s)\\s*(if|switch|for|while)\\b.*")) continue;
      found++;
      int parameters = matcher.group(2).isEmpty() ? 0 : matcher.group(2).split(",").length;
      Due.isTrue("parameters of" + matcher.group(0), parameters <= 7);
      int end = code.indexOf("\n" + matcher.group(1) + "}", matcher.end() - 1);
      int lines = many("\n", code.substring(matcher.start() + 1, end));
      Due.isTrue(lines + " lines of" + matcher.group(0), lines <= 60);
    }
    Due.isTrue("methods are found: " + found, found > 100);
  }

  private static int many(String pattern, String code) {
    Matcher matcher = Pattern.compile(pattern).matcher(code);
    int many = 0;
    while (matcher.find()) many++;
    return many;
  }
}
