/** Each sentence of the document on THE TAPE and TEXTS that names a boundary: terms 2, promises 9 to 11. */
public final class TextsEdgesTest {
  private static final int LEAST = Integer.MIN_VALUE;
  private static final int MOST = Integer.MAX_VALUE;

  public static void main(String[] args) {
    tape();
    feedBytes();
    grammar();
    numbers();
    names();
    noBlanks();
    open();
    fault();
    wraps();
    quotients();
    truth();
    allWorkedOut();
    held();
    text();
    law();
    Due.done();
  }

  private static void tape() {
    Due.of("TEXTS are read from THE TAPE (bytes, at most 50)");
    for (int n = 1; n <= 8; n++) {
      WellRefuses x = new WellRefuses();
      int size = 0;
      while (size + n <= 50) {
        size += n;
        Due.is(n + " more", x.feed(0, n), size);
      }
      Due.is(n + " too many", x.feed(0, n), Due.FULL);
      Due.is("none of them came", x.count(6), size);
      if (size < 50) Due.is("those that fit", x.feed(0, 50 - size), 50);
      Due.is("50", x.count(6), 50);
      Due.is("one too many", x.feed(0, 1), Due.FULL);
      Due.is("50 stay", x.count(6), 50);
    }
    StringBuilder text = new StringBuilder("10");
    while (text.length() < 50) text.append("*t");
    good(text.toString());
  }

  private static void feedBytes() {
    Due.of("The n lowest bytes (1 .. 8) of a word, the lowest first, come to THE TAPE: how many there are. BEYOND. FULL.");
    WellRefuses x = new WellRefuses();
    Due.is("n 0", x.feed(0x31, 0), Due.BEYOND);
    Due.is("n 9", x.feed(0x31, 9), Due.BEYOND);
    Due.is("n -1", x.feed(0x31, -1), Due.BEYOND);
    for (int far : Due.FAR) Due.is("n " + far, x.feed(0x31, far), Due.BEYOND);
    Due.is("an empty TAPE", x.count(6), 0);
    Due.is("n 1", x.feed(0x7FFFFFFFFFFFFF31L, 1), 1);
    Due.is("1", x.text(0), 1);
    Due.is("n 8, the lowest first", x.feed(0x34333231303E2B74L, 8), 8); // t+>01234
    Due.is("FAULT behind t+", x.text(0), -12);
    Due.is("n 8, the highest last", x.feed(0x742B742B742B742BL, 8), 8); // +t+t+t+t
    Due.is("FAULT at +", x.text(0), -10);
    Due.is("the highest byte alone is wrong", x.feed(0xFF2B742B742B7431L, 8), 8);
    Due.is("1t is wrong ahead of it", x.text(0), -11);
    Due.is("only the highest", x.feed(0xFF742B742B742B74L, 8), 8);
    Due.is("FAULT at the eighth", x.text(0), -17);
    for (int i = 0; i < 6; i++) x.feed(0, 8);
    Due.is("48: BEYOND ahead of FULL", x.feed(0, 9), Due.BEYOND);
    Due.is("48 and 3", x.feed(0, 3), Due.FULL);
    Due.is("48 and 2", x.feed(0, 2), 50);
    Due.is("full: n 0 is BEYOND", x.feed(0, 0), Due.BEYOND);
    Due.is("full: n 1", x.feed(0, 1), Due.FULL);
    Due.is("full: n 8", x.feed(0, 8), Due.FULL);
  }

  private static void grammar() {
    Due.of("T: A { | A }. A: B { & B }. B: S, or S < S, S = S, S > S. S: P { + P, - P }. P: Q { * Q, / Q, % Q }. Q: a NUMBER of 1 to 4 digits, a NAME, ! Q, ( T ).");
    good("t");
    good("t|t|t|t");
    good("t&t&t&t");
    good("t<t");
    good("t=t");
    good("t>t");
    good("t+t-t+t-t");
    good("t*t/t%t*t");
    good("t<t&t=t|t>t&t<t");
    good("!t*!t");
    good("(t<t)<t");
    good("t<(t<t)");
    good("!(t<t)=t");
    fault("t<t<t", 3);
    fault("t<t=t", 3);
    fault("t>t>t", 3);
    fault("t=t+t<t", 5);
    fault("t<t&t<t<t", 7);
    fault("(t<t>t)", 4);
    String signs = "|&<=>+-*/%";
    for (int i = 0; i < signs.length(); i++) {
      char sign = signs.charAt(i);
      fault("" + sign, 0);
      fault("t" + sign, 2);
      fault("(" + sign, 1);
      fault("!" + sign, 1);
      fault("(t" + sign + ")", 3);
      for (int k = 0; k < signs.length(); k++) fault("t" + sign + signs.charAt(k) + "t", 2);
    }
    fault("t!", 1);
    fault("t(t)", 1);
    fault("(t)t", 3);
    fault("(t)(t)", 3);
    fault("(t)1", 3);
    fault("tt", 1);
    fault("t1", 1);
    fault("1t", 1);
    fault("()", 1);
    fault(")", 0);
    fault("t)", 1);
    fault("!)", 1);
    fault("(()", 2);
    fault("(())", 2);
    fault("((((()))))", 5);
    worth("(1|0&0)", 1);
    worth("(0&0|1)", 1);
    worth("(2&2<1)", 0);
    worth("(1<1&2)", 0);
    worth("(2<1+2)", 1);
    worth("(2+2<3)", 0);
    worth("1+2*3", 7);
    worth("2*3+1", 7);
    worth("9-3-2", 4);
    worth("2*9/4*3", 12);
    worth("!0+5", 6);
    worth("!0*5", 5);
  }

  private static void numbers() {
    Due.of("a NUMBER of 1 to 4 digits");
    good("0");
    good("9");
    good("10");
    good("999");
    good("9999");
    good("0000");
    fault("00000", 4);
    fault("12345", 4);
    fault("t+12345", 6);
    fault("123456789", 4);
    worth("9999", 9999);
    worth("0009", 9);
    worth("0010", 10);
    fault("/", 0); // the bytes on either side of the digits
    fault(":", 0);
    fault("1:", 1);
  }

  private static void names() {
    Due.of("0 GIVES, NAMES t TRAITS, d the rest of DAY by 7, w WATER");
    only(0, "tdw");
    Due.of("1 LENDS, NAMES w WATER of who lends, o what is owed to that one, m its m");
    only(1, "wom");
  }

  /** Of all bytes, only these and the digits are a TEXT by themselves. */
  private static void only(int use, String names) {
    WellRefuses x = new WellRefuses();
    for (int sign = 0; sign < 256; sign++) {
      if (sign == 128) x = new WellRefuses();
      boolean isText = names.indexOf(sign) >= 0 || sign >= '0' && sign <= '9';
      boolean opens = sign == '!' || sign == '(';
      x.feed(sign, 1);
      Due.is("byte " + sign, x.text(use), isText ? 1 : opens ? -11 : -10);
    }
  }

  private static void noBlanks() {
    Due.of("No blanks.");
    fault(" ", 0);
    fault(" t", 0);
    fault("t ", 1);
    fault("t +d", 1);
    fault("t+ d", 2);
    fault("1 2", 1);
    fault("! t", 1);
    fault("( t)", 1);
    fault("(t )", 2);
    fault("t\n", 1);
  }

  private static void open() {
    Due.of("At most 5 of ! and ( are open at once.");
    good("!!!!!t");
    fault("!!!!!!t", 5);
    good("(((((t)))))");
    fault("((((((t))))))", 5);
    good("!(!(!t))");
    fault("!(!(!(t)))", 5);
    fault("!(!(!!t))", 5);
    good("(!(!(t)))");
    fault("(!(!(!t)))", 5);
    good("!!!!!t*!!!!!t");
    good("(((((t)))))+(((((t)))))");
    good("((((!t+!t+!t))))");
    fault("((((!t+!!t))))", 8);
    good("!!!(!t)+!!!!!t");
    fault("!!!(!!t)", 5);
    good("!!!(!t*!t)");
    fault("(((((t)+((t)))))", 9);
  }

  private static void fault() {
    Due.of("FAULT: the place of the first byte with which no TEXT goes on; how many there are, if it ends too early.");
    fault("", 0);
    fault("x", 0);
    fault("tx", 1);
    fault("t+x", 2);
    fault("(", 1);
    fault("!", 1);
    fault("!!!!!", 5);
    fault("(((((", 5);
    fault("((((((", 5);
    fault("t+", 2);
    fault("(t", 2);
    fault("(t+", 3);
    fault("(1234", 5);
    fault("(12345", 5);
    fault("t\0", 1);
    fault("\0", 0);
    fault("t\u00ff", 1);
    fault("((t)", 4);
    fault("(t))", 3);
    StringBuilder sum = new StringBuilder("t");
    while (sum.length() < 49) sum.append("+t");
    good(sum.toString());
    fault(sum + "+", 50);
    fault(sum + "t", 49);
    fault(sum + ")", 49);
    fault("(" + sum, 50);
    fault("x" + sum, 0);
  }

  private static void wraps() {
    Due.of("Ints that wrap");
    gives("t+d=w", MOST, 1, LEAST);
    gives("t+d=w", LEAST, LEAST, 0);
    gives("t+d=w", LEAST, -1, MOST);
    gives("t-d=w", LEAST, 1, MOST);
    gives("t-d=w", 0, LEAST, LEAST);
    gives("t-d=w", MOST, -1, LEAST);
    gives("t*d=w", LEAST, -1, LEAST);
    gives("t*d=w", MOST, MOST, 1);
    gives("t*d=w", 65536, 65536, 0);
    gives("t*d=w", 65536, 32768, LEAST);
    gives("9999*9999*9999=w", 0, 0, (int) (9999L * 9999 * 9999));
    gives("t<d", LEAST, MOST, 0);
    gives("t>d", MOST, LEAST, 0);
    gives("!(t>d)", LEAST, MOST, 0);
    gives("t=d", LEAST, LEAST, 0);
  }

  private static void quotients() {
    Due.of("/ cut, % the rest that it leaves, both by 0 are 0");
    gives("t/d=w", 7, 2, 3);
    gives("t/d=w", -7, 2, -3);
    gives("t/d=w", 7, -2, -3);
    gives("t/d=w", -7, -2, 3);
    gives("t%d=w", 7, 2, 1);
    gives("t%d=w", -7, 2, -1);
    gives("t%d=w", 7, -2, 1);
    gives("t%d=w", -7, -2, -1);
    gives("t/d=w", -1, 2, 0);
    gives("t/d=w", LEAST, -1, LEAST);
    gives("t%d=w", LEAST, -1, 0);
    gives("t%d=w", LEAST, MOST, -1);
    gives("t/d=w", LEAST, LEAST, 1);
    gives("t/d=w", MOST, LEAST, 0);
    for (int t : new int[] {LEAST, -1, 0, 1, 7, MOST}) {
      gives("t/d=w", t, 0, 0);
      gives("t%d=w", t, 0, 0);
      gives("t/d=w", t, 1, t);
      gives("t%d=w", t, 1, 0);
    }
    Due.of("Quotients are cut (toward 0).");
    worth("(0-9)/10+1", 1);
    worth("(0-10)/10+1", 0);
    worth("9/10", 0);
    worth("19/10", 1);
  }

  private static void truth() {
    Due.of("| & < = > ! are 1 or 0, what is not 0 being true");
    int[] trueOnes = {LEAST, -1, 1, 2, 256, 65536, MOST};
    for (int a : trueOnes) {
      gives("(t|d)=w", a, 0, 1);
      gives("(t|d)=w", 0, a, 1);
      gives("(t&d)=w", a, 0, 0);
      gives("(t&d)=w", 0, a, 0);
      gives("!t=w", a, 9, 0);
      gives("!!t=w", a, 9, 1);
      for (int b : trueOnes) {
        gives("(t|d)=w", a, b, 1);
        gives("(t&d)=w", a, b, 1);
      }
      gives("(t<d)=w", a, a, 0);
      gives("(t=d)=w", a, a, 1);
      gives("(t>d)=w", a, a, 0);
    }
    gives("(t|d)=w", 0, 0, 0);
    gives("(t&d)=w", 0, 0, 0);
    gives("!t=w", 0, 9, 1);
    gives("(t<d)=w", 4, 5, 1);
    gives("(t<d)=w", 5, 4, 0);
    gives("(t>d)=w", 5, 4, 1);
    gives("(t>d)=w", 4, 5, 0);
    gives("(t=d)=w", 4, 5, 0);
  }

  private static void allWorkedOut() {
    Due.of("all is worked out");
    worth("(0&1/0)", 0);
    worth("(1|1%0)", 1);
    worth("(1/0|1)", 1);
    worth("(1%0&1)", 0);
  }

  private static void held() {
    Due.of("held within 0 to 1; without a TEXT t%2.");
    WellRefuses x = new WellRefuses();
    int[] traits = {LEAST, -3, -2, -1, 0, 1, 2, 3, 14, 15, 16, MOST - 1, MOST};
    for (int t : traits) Due.is("t%2 of " + t, x.law(0, t, 9, 9), t > 0 && t % 2 == 1 ? 1 : 0);
    Due.text(x, 0, "t");
    for (int t : traits) Due.is("t of " + t, x.law(0, t, 9, 9), t > 0 ? 1 : 0);

    Due.of("held within 0 to 1; without a TEXT w>3.");
    int[] waters = {LEAST, -4, 0, 2, 3, 4, 5, 999, MOST};
    for (int w : waters) Due.is("w>3 of " + w, x.law(1, w, 9, 9), w >= 4 ? 1 : 0);
    Due.text(x, 1, "w");
    for (int w : waters) Due.is("w of " + w, x.law(1, w, 9, 9), w > 0 ? 1 : 0);
  }

  private static void text() {
    Due.of("THE TAPE, which is empty then, is the TEXT of a USE (0, 1), in place of one ahead: 1. BEYOND (THE TAPE stays).");
    for (int use = 0; use < 2; use++) {
      WellRefuses x = new WellRefuses();
      Due.feed(x, "0");
      Due.is("use -1", x.text(-1), Due.BEYOND);
      Due.is("use 2", x.text(2), Due.BEYOND);
      for (int far : Due.FAR) Due.is("use " + far, x.text(far), Due.BEYOND);
      Due.is("THE TAPE stays", x.count(6), 1);
      Due.is("use " + use, x.text(use), 1);
      Due.is("THE TAPE is empty", x.count(6), 0);
      Due.is("the TEXT", x.law(use, 5, 5, 5), 0);
      Due.is("the other USE has none", x.law(1 - use, 5, 5, 5), 1);
      Due.is("one in its place", Due.text(x, use, "1"), 1);
      Due.is("the new TEXT", x.law(use, 0, 0, 0), 1);
      Due.feed(x, "x");
      Due.is("no TEXT, but use 2", x.text(2), Due.BEYOND);
      Due.is("still on THE TAPE", x.text(use), -10);
    }
    Due.of("-10 less the FAULT (no ERROR; the one ahead stays; THE TAPE is empty, too).");
    WellRefuses x = new WellRefuses();
    Due.is("an empty TAPE", x.text(0), -10);
    Due.is("without a TEXT as ahead", x.law(0, 1, 0, 0), 1);
    Due.text(x, 0, "t=6");
    Due.is("FAULT 3", Due.text(x, 0, "t=5+"), -14);
    Due.is("THE TAPE is empty, too", x.count(6), 0);
    Due.is("the one ahead stays", x.law(0, 6, 0, 0), 1);
    Due.is("not the new one", x.law(0, 5, 0, 0), 0);
    Due.is("FAULT 0 of an empty TAPE", x.text(0), -10);
    Due.is("the one ahead stays", x.law(0, 6, 0, 0), 1);
    for (int i = 0; i < 6; i++) x.feed(0x2828282828282828L, 8);
    x.feed(0x2828, 2);
    Due.is("50 open ones", x.text(0), -15);
    Due.is("THE TAPE has room again", x.feed(0, 8), 8);
    for (int k = 1; k <= 5; k++) Due.is("no ERROR " + k, x.told(k), 0);
  }

  private static void law() {
    Due.of("What a USE gives with its NAMES in order as a, b, c. BEYOND.");
    WellRefuses x = new WellRefuses();
    Due.is("use -1", x.law(-1, 1, 0, 0), Due.BEYOND);
    Due.is("use 2", x.law(2, 9, 0, 0), Due.BEYOND);
    for (int far : Due.FAR) Due.is("use " + far, x.law(far, 9, 0, 0), Due.BEYOND);
    gives("t=0-2147*1000*1000&d=0&w=9", -2147000000, 0, 9);
    Due.text(x, 1, "(w=0-1)&(o=100)&(m=10)");
    Due.is("numbers beyond those of PEOPLE", x.law(1, -1, 100, 10), 1);
    Due.is("in order", x.law(1, 10, 100, -1), 0);
  }

  private static void good(String text) {
    Due.is("TEXT " + text, Due.text(new WellRefuses(), 0, text), 1);
  }

  private static void fault(String text, int place) {
    Due.is("FAULT of " + text, Due.text(new WellRefuses(), 0, text), -10 - place);
  }

  /** The TEXT gives 1 for t, d, w as told. */
  private static void gives(String text, int t, int d, int w) {
    WellRefuses x = new WellRefuses();
    Due.is("TEXT " + text, Due.text(x, 0, text), 1);
    Due.is(text + " for " + t + ", " + d + ", " + w, x.law(0, t, d, w), 1);
  }

  private static void worth(String text, int due) {
    gives("(" + text + ")=w", 0, 0, due);
    WellRefuses x = new WellRefuses();
    Due.text(x, 0, "(" + text + ")=w");
    Due.is(text + " isn't another number", x.law(0, 0, 0, due + 1), 0);
  }
}
