import java.io.IOException;
import java.nio.charset.StandardCharsets;
import java.nio.file.Files;
import java.nio.file.Path;
import java.nio.file.Paths;

/** Counts the answers that are not the due ones; a test's main ends with done(). */
final class Due {
  static final int BEYOND = -1000000001;
  static final int NONE = -1000000002;
  static final int STATE = -1000000003;
  static final int FULL = -1000000004;
  static final int KIND = -1000000005;

  /** Ints that lie far from all that is taken. */
  static final int[] FAR = {Integer.MIN_VALUE, Integer.MIN_VALUE + 1, -1000000001, -65536, 65536, Integer.MAX_VALUE};

  private static final Path DOCUMENT = Paths.get("../shared/DOC.md");

  private static int asked = 0;
  private static int wrong = 0;
  private static String heading = "";
  private static String document = null;

  private Due() {}

  static void is(String call, long got, long want) {
    asked++;
    if (got != want) fails(call + " answered " + got + ", due is " + want);
  }

  static void isTrue(String what, boolean so) {
    asked++;
    if (!so) fails("not so: " + what);
  }

  private static void fails(String what) {
    wrong++;
    if (wrong <= 50) System.out.println(heading + what);
  }

  /** What follows tests this sentence (or part of one), which must stand in the document. */
  static void of(String sentence) {
    heading = "";
    isTrue("the document says: " + sentence, saysDocument(sentence));
    heading = "[" + sentence + "] ";
  }

  private static boolean saysDocument(String sentence) {
    try {
      if (document == null) {
        boolean isThere = Files.isRegularFile(DOCUMENT);
        document = isThere ? oneLine(new String(Files.readAllBytes(DOCUMENT), StandardCharsets.UTF_8)) : "";
      }
    } catch (IOException e) {
      document = "";
    }
    return document.isEmpty() || document.contains(oneLine(sentence));
  }

  private static String oneLine(String text) {
    return text.replace("`", "").replaceAll("\\s+", " ");
  }

  /** Feeds a text's signs, eight a call. */
  static void feed(WellRefuses x, String text) {
    for (int i = 0; i < text.length(); i += 8) {
      int n = Math.min(8, text.length() - i);
      long word = 0;
      for (int k = 0; k < n; k++) word |= (long) (text.charAt(i + k) & 255) << (8 * k);
      x.feed(word, n);
    }
  }

  static int text(WellRefuses x, int use, String text) {
    feed(x, text);
    return x.text(use);
  }

  /** A new object with so many PEOPLE, all of a KIND, m and TRAITS. */
  static WellRefuses people(int many, int km, int traits) {
    WellRefuses x = new WellRefuses();
    for (int p = 0; p < many; p++) x.person(km, traits);
    return x;
  }

  /** DAYS go by up to one told (nobody drinks while there are no PEOPLE yet). */
  static WellRefuses atDay(int day) {
    WellRefuses x = new WellRefuses();
    for (int gone = 0; gone < day; ) {
      int n = Math.min(60, day - gone);
      x.days(n);
      gone += n;
    }
    return x;
  }

  static void done() {
    System.out.println(wrong == 0 ? asked + " answers, all as due" : wrong + " of " + asked + " answers are not as due");
    if (wrong != 0) System.exit(1);
  }
}
