/** Counts the answers that are not the due ones; a test's main ends with done(). */
final class Due {
  static final int BEYOND = -1000000001;
  static final int NONE = -1000000002;
  static final int STATE = -1000000003;
  static final int FULL = -1000000004;
  static final int KIND = -1000000005;

  private static int asked = 0;
  private static int wrong = 0;

  private Due() {}

  static void is(String call, long got, long want) {
    asked++;
    if (got == want) return;
    wrong++;
    if (wrong <= 50) System.out.println(call + " answered " + got + ", due is " + want);
  }

  static void isTrue(String what, boolean so) {
    asked++;
    if (so) return;
    wrong++;
    if (wrong <= 50) System.out.println("not so: " + what);
  }

  /** Feeds a text's signs, eight a call. */
  static void feed(WellRefuses x, String text) {
    for (int i = 0; i < text.length(); i += 8) {
      int n = Math.min(8, text.length() - i);
      long word = 0;
      for (int k = 0; k < n; k++) word |= (long) (text.charAt(i + k) & 255) << (8 * k);
      x.feed(word, n);
    }
  }

  static int text(WellRefuses x, int use, String text) {
    feed(x, text);
    return x.text(use);
  }

  static void done() {
    System.out.println(wrong == 0 ? asked + " answers, all as due" : wrong + " of " + asked + " answers are not as due");
    if (wrong != 0) System.exit(1);
  }
}
