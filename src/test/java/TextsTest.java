/** Promises 9 to 11: THE TAPE, TEXTS and what they give. */
public final class TextsTest {
  public static void main(String[] args) {
    feed();
    faults();
    text();
    law();
    worth();
    Due.done();
  }

  private static void feed() {
    WellRefuses x = new WellRefuses();
    Due.is("n 0", x.feed(0, 0), Due.BEYOND);
    Due.is("n 9", x.feed(0, 9), Due.BEYOND);
    Due.is("n -1", x.feed(0, -1), Due.BEYOND);
    for (int i = 1; i <= 6; i++) Due.is("eight more", x.feed(0x7474747474747474L, 8), 8 * i);
    Due.is("three too many", x.feed(0, 3), Due.FULL);
    Due.is("BEYOND is asked first", x.feed(0, 9), Due.BEYOND);
    Due.is("two fit", x.feed(0, 2), 50);
    Due.is("full", x.feed(0, 1), Due.FULL);
    Due.is("bytes", x.count(6), 50);
    Due.is("no second name", x.text(0), -11);
    Due.is("the lowest bytes alone", x.feed(0x7FFFFFFFFF333E77L, 3), 3);
    Due.is("w>3", x.text(1), 1);
    Due.is("the highest byte", x.feed(0x8000000000000031L, 8), 8);
    Due.is("1 and a byte 0", x.text(0), -11);
    x.feed(-1L, 1);
    Due.is("byte 255", x.text(0), -10);
  }

  private static void faults() {
    fault("", 0);
    fault("+", 0);
    fault("-1", 0);
    fault(" t", 0);
    fault("t ", 1);
    fault("x", 0);
    fault("o", 0);
    fault("t+", 2);
    fault("t+*", 2);
    fault("tt", 1);
    fault("t1", 1);
    fault("1t", 1);
    fault("12345", 4);
    fault("1<2<3", 3);
    fault("1=2>3", 3);
    fault("t&1<2<3", 5);
    fault("(1<2=3)", 4);
    fault("t|", 2);
    fault("t||t", 2);
    fault("t!t", 1);
    fault("(t", 2);
    fault("()", 1);
    fault("t)", 1);
    fault("(()", 2);
    fault("((+)", 2);
    fault("(t))", 3);
    fault("(t+d", 4);
    fault("(t(", 2);
    fault("!", 1);
    fault("!!", 2);
    fault("!!!!!!t", 5);
    fault("((((((t))))))", 5);
    fault("(!(!(!t", 5);
    fault("!(!(!t)", 7);
    fault("!!(((t))+!t)!", 12);
    fault("!!!!((t))", 5);
    fault("T", 0);
    fault("t<", 2);
    fault("t=d=w", 3);
    fault("t/", 2);
    fault(";", 0);
    good("!!!((t)+!t)");
    good("!!!!!t");
    good("(((((t)))))");
    good("!(!(!t))");
    good("!!!!!t+!!!!!d");
    good("!!!!(t)+!(((!t)))");
    good("9999");
    good("0000");
    good("1<2&3=4|5>6&(1<2)<3");
    good("1<(2<3)");
    good("t+d-w*t/d%w");
    good("t+t+t+t+t+t+t+t+t+t+t+t+t+t+t+t+t+t+t+t+t+t+t+t+00");
    fault("t+t+t+t+t+t+t+t+t+t+t+t+t+t+t+t+t+t+t+t+t+t+t+t+t+", 50);
    WellRefuses x = new WellRefuses();
    Due.is("w for LENDS", Due.text(x, 1, "w+o+m"), 1);
    Due.is("t for LENDS", Due.text(x, 1, "w+t"), -12);
    Due.is("d for LENDS", Due.text(x, 1, "d"), -10);
    Due.is("m for GIVES", Due.text(x, 0, "t*m"), -12);
  }

  private static void fault(String text, int place) {
    Due.is("FAULT of " + text, Due.text(new WellRefuses(), 0, text), -10 - place);
  }

  private static void good(String text) {
    Due.is("TEXT " + text, Due.text(new WellRefuses(), 0, text), 1);
  }

  private static void text() {
    WellRefuses x = new WellRefuses();
    Due.feed(x, "d");
    Due.is("use 2", x.text(2), Due.BEYOND);
    Due.is("use -1", x.text(-1), Due.BEYOND);
    Due.is("THE TAPE stays", x.count(6), 1);
    Due.is("d", x.text(0), 1);
    Due.is("THE TAPE is empty", x.count(6), 0);
    Due.is("gives by it", x.law(0, 1, 0, 0), 0);
    Due.is("a FAULT", Due.text(x, 0, "t+"), -12);
    Due.is("THE TAPE is empty, too", x.count(6), 0);
    Due.is("the one ahead stays", x.law(0, 1, 0, 0), 0);
    Due.is("no ERROR", x.told(1), 2);
    Due.is("another in its place", Due.text(x, 0, "t"), 1);
    Due.is("gives by that", x.law(0, 1, 0, 0), 1);
    Due.is("the other USE has none", x.law(1, 4, 9, 9), 1);
    Due.is("an empty TAPE", x.text(0), -10);
  }

  private static void law() {
    WellRefuses x = new WellRefuses();
    Due.is("t%2 of 15", x.law(0, 15, 6, 9), 1);
    Due.is("t%2 of 14", x.law(0, 14, 1, 1), 0);
    Due.is("t%2 of -3, held", x.law(0, -3, 1, 1), 0);
    Due.is("w>3 of 4", x.law(1, 4, 0, 0), 1);
    Due.is("w>3 of 3", x.law(1, 3, 9, 9), 0);
    Due.is("use 2", x.law(2, 0, 0, 0), Due.BEYOND);
    Due.is("use -1", x.law(-1, 0, 0, 0), Due.BEYOND);
    Due.text(x, 0, "t*100+d*10+w=123");
    Due.is("t, d, w in order", x.law(0, 1, 2, 3), 1);
    Due.is("not another", x.law(0, 3, 2, 1), 0);
    Due.text(x, 1, "w*100+o*10+m=123");
    Due.is("w, o, m in order", x.law(1, 1, 2, 3), 1);
    Due.is("not another", x.law(1, 3, 2, 1), 0);
    Due.text(x, 1, "w");
    Due.is("held at 1", x.law(1, 77, 0, 0), 1);
    Due.is("held at 0", x.law(1, -77, 0, 0), 0);
    Due.is("held from the least int", x.law(1, Integer.MIN_VALUE, 0, 0), 0);
  }

  /** Each text is asked whether it is worth what is due: text=due. */
  private static void worth() {
    worth("2+3*4", 14);
    worth("(2+3)*4", 20);
    worth("9-3-2", 4);
    worth("100/10/5", 2);
    worth("100%30%4", 2);
    worth("2*9/4", 4);
    worth("9/4*2", 4);
    worth("(0-7)/2+9", 6);
    worth("(0-7)%3+9", 8);
    worth("7/0", 0);
    worth("7%0", 0);
    worth("7/(3-3)+5", 5);
    worth("!0", 1);
    worth("!7", 0);
    worth("!!7", 1);
    worth("!7+1", 1);
    worth("!0*5", 5);
    worth("(3|0)+(0|0)", 1);
    worth("(3&4)*9+(3&0)", 9);
    worth("(2&4)", 1);
    worth("(0|5)", 1);
    worth("(2<3)+(3<3)+(3<2)", 1);
    worth("(2>3)+(3>3)+(3>2)*2", 2);
    worth("(2=3)+(3=3)*4", 4);
    worth("(1|0&0)", 1);
    worth("(0&0|1)", 1);
    worth("(1<2&3<4)", 1);
    worth("(1+1<2+1)", 1);
    worth("0012", 12);
    worth("t", 5);
    worth("d*w", 42);
    WellRefuses x = new WellRefuses();
    Due.text(x, 0, "t*d=w");
    Due.is("a product that wraps", x.law(0, 99980001, 99980001, (int) (99980001L * 99980001L)), 1);
    Due.text(x, 0, "t+d=w");
    Due.is("a sum that wraps", x.law(0, Integer.MAX_VALUE, 1, Integer.MIN_VALUE), 1);
    Due.text(x, 0, "t/d=t");
    Due.is("the least int by -1", x.law(0, Integer.MIN_VALUE, -1, 0), 1);
    Due.text(x, 0, "t%d=0");
    Due.is("its rest", x.law(0, Integer.MIN_VALUE, -1, 0), 1);
    Due.text(x, 0, "t-d>0");
    Due.is("a difference that wraps", x.law(0, Integer.MIN_VALUE, 1, 0), 1);
    Due.text(x, 0, "t<d");
    Due.is("less, far apart", x.law(0, Integer.MIN_VALUE, Integer.MAX_VALUE, 0), 1);
    Due.text(x, 0, "t");
    Due.is("a TEXT that gives 2 is held", x.law(0, 2, 0, 0), 1);
    Due.text(x, 0, "2|0-1");
    Due.is("| of 2 gives 1", x.law(0, 2, 0, 0), 1);
  }

  private static void worth(String text, int due) {
    WellRefuses x = new WellRefuses();
    Due.is("TEXT (" + text + ")", Due.text(x, 0, "(" + text + ")=" + due), 1);
    Due.is(text + " is " + due, x.law(0, 5, 6, 7), 1);
    Due.is("TEXT (" + text + ")", Due.text(x, 0, "(" + text + ")=" + (due + 1)), 1);
    Due.is(text + " is not " + (due + 1), x.law(0, 5, 6, 7), 0);
  }
}
