import java.io.ByteArrayOutputStream;
import java.io.IOException;
import java.io.PrintStream;
import java.net.URL;
import java.net.URLClassLoader;
import java.nio.charset.StandardCharsets;
import java.nio.file.Files;
import java.nio.file.Path;
import java.nio.file.Paths;
import java.util.ArrayList;
import java.util.List;
import java.util.regex.Matcher;
import java.util.regex.Pattern;
import java.util.stream.Collectors;
import java.util.stream.Stream;
import javax.tools.ToolProvider;

/** README.md's example compiles and answers what README.md says; run from the checkout's root. */
public final class ReadmeTest {
  private static final Pattern EXAMPLE = Pattern.compile("```java\n(.*?)```", Pattern.DOTALL);
  private static final Pattern ASKED = Pattern.compile("System\\.out\\.println\\(([^\n]*?)\\);([^\n]*)");
  private static final Pattern ANSWER = Pattern.compile(" +// (-?\\d+): .+");
  private static final int FEWEST_CALLS = 10;

  public static void main(String[] args) throws Exception {
    String readme = new String(Files.readAllBytes(Paths.get("README.md")), StandardCharsets.UTF_8);
    Matcher example = EXAMPLE.matcher(readme);
    boolean isThere = example.find();
    Due.isTrue("README.md gives an example", isThere);
    if (isThere) answers(example.group(1));
    namesEachTest(readme);
    Due.isTrue(".ci/run can be run", readme.contains("\n    .ci/run\n") && Files.isExecutable(Paths.get(".ci/run")));
    Due.done();
  }

  private static void answers(String example) throws Exception {
    List<String> calls = new ArrayList<>();
    List<String> due = new ArrayList<>();
    Matcher asked = ASKED.matcher(example);
    while (asked.find()) {
      Matcher answer = ANSWER.matcher(asked.group(2));
      boolean isTold = answer.matches();
      Due.isTrue("the answer is told behind " + asked.group(1), isTold);
      calls.add(asked.group(1));
      due.add(isTold ? answer.group(1) : "");
    }
    Due.isTrue("the example tells answers: " + calls.size(), calls.size() >= FEWEST_CALLS);
    List<String> printed = printedBy(example);
    Due.is("answers printed", printed.size(), due.size());
    for (int i = 0; i < due.size() && i < printed.size(); i++) {
      Due.isTrue(calls.get(i) + " answers " + due.get(i) + ": " + printed.get(i), printed.get(i).equals(due.get(i)));
    }
  }

  /** The lines that the example prints; none if it doesn't compile. */
  private static List<String> printedBy(String example) throws Exception {
    Path place = Files.createTempDirectory("readme");
    Path source = place.resolve("Example.java");
    Files.write(source, example.getBytes(StandardCharsets.UTF_8));
    int compiled = ToolProvider.getSystemJavaCompiler().run(null, null, null, "--release", "17", "-cp",
        System.getProperty("java.class.path"), "-d", place.toString(), source.toString());
    Due.is("the example compiles", compiled, 0);
    List<String> lines = new ArrayList<>();
    if (compiled == 0) lines.addAll(run(place));
    for (String name : new String[] {"Example.java", "Example.class"}) Files.deleteIfExists(place.resolve(name));
    Files.delete(place);
    return lines;
  }

  private static List<String> run(Path place) throws Exception {
    PrintStream out = System.out;
    ByteArrayOutputStream printed = new ByteArrayOutputStream();
    try (URLClassLoader loader = new URLClassLoader(new URL[] {place.toUri().toURL()})) {
      System.setOut(new PrintStream(printed, true, "UTF-8"));
      loader.loadClass("Example").getMethod("main", String[].class).invoke(null, (Object) new String[0]);
    } finally {
      System.setOut(out);
    }
    return printed.toString("UTF-8").lines().collect(Collectors.toList());
  }

  private static void namesEachTest(String readme) throws IOException {
    List<String> files;
    try (Stream<Path> all = Files.list(Paths.get("src/test/java"))) {
      files = all.map(file -> file.getFileName().toString()).sorted().collect(Collectors.toList());
    }
    for (String file : files) {
      String name = file.replace(".java", "");
      if (name.endsWith("Test")) Due.isTrue("README.md names " + name, readme.contains("`" + name + "`"));
    }
    Matcher named = Pattern.compile("`(\\w+Test)`").matcher(readme);
    while (named.find()) Due.isTrue(named.group(1) + " is there", files.contains(named.group(1) + ".java"));
  }
}
