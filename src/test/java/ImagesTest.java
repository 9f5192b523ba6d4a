/** Promises 33 to 38: images, numbers that wait, what is told. */
public final class ImagesTest {
  public static void main(String[] args) {
    image();
    kept();
    notKept();
    tell();
    check();
    count();
    told();
    Due.done();
  }

  private static void image() {
    WellRefuses x = new WellRefuses();
    Due.is("none", x.restore(), Due.NONE);
    Due.is("of nothing", x.image(), 1);
    x.person(0, 1);
    x.days(5);
    Due.is("back", x.restore(), 0);
    Due.is("nobody", x.count(0), 0);
    x.days(7);
    Due.is("again", x.image(), 2);
    x.days(1);
    Due.is("the later one", x.restore(), 7);
    x.days(2);
    Due.is("it stays", x.restore(), 7);
    Due.is("a third", x.image(), 3);
  }

  private static void kept() {
    WellRefuses x = new WellRefuses();
    for (int p = 0; p < 3; p++) x.person(13 + p, p + 1);
    x.change(1, 1, 5);
    x.change(1, 2, 6);
    x.owe(0, 2, 7);
    x.seed(77);
    Due.text(x, 0, "t");
    Due.text(x, 1, "o");
    Due.feed(x, "w>1");
    x.tell(8);
    x.tell(9);
    x.image();
    x.become(1, 66);
    x.change(1, 0, 9);
    x.change(1, 1, 15);
    x.change(1, 2, 16);
    x.owe(0, 2, 17);
    x.owe(2, 0, 17);
    x.seed(78);
    x.text(0);
    Due.feed(x, "w");
    x.text(1);
    Due.feed(x, "w>1w>1w>1");
    x.check();
    x.tell(3);
    x.person(0, 0);
    x.owe(3, 0, 9);
    Due.is("DAY", x.restore(), 0);
    Due.is("PEOPLE", x.count(0), 3);
    int[] due = {1, 4, 2, 5, 6};
    for (int what = 0; what < 5; what++) Due.is("of 1 " + what, x.ofPerson(1, what), due[what]);
    Due.is("debt", x.owes(0, 2), 7);
    Due.is("no debt", x.owes(2, 0), 0);
    Due.is("z", x.count(9), 77);
    Due.is("GIVES", x.law(0, 1, 0, 0), 1);
    Due.is("LENDS", x.law(1, 1, 0, 0), 0);
    Due.is("waiting", x.count(7), 2);
    Due.is("bytes", x.count(6), 3);
    Due.is("THE TAPE", x.text(0), 1);
    Due.is("is w>1: 2", x.law(0, 0, 0, 2), 1);
    Due.is("is w>1: 1", x.law(0, 0, 0, 1), 0);
    Due.is("another comes", x.person(0, 0), 3);
    Due.is("who OWES nothing", x.owes(3, 0), 0);
    x.days(1);
    x.restore();
    Due.feed(x, "+1");
    Due.is("THE TAPE goes on", x.text(1), 1);
    Due.is("to w>1+1: 2", x.law(1, 2, 0, 0), 0);
    Due.is("to w>1+1: 3", x.law(1, 3, 0, 0), 1);
    WellRefuses y = new WellRefuses();
    y.image();
    Due.text(y, 0, "1");
    y.restore();
    Due.is("without a TEXT again", y.law(0, 2, 0, 0), 0);
  }

  private static void notKept() {
    WellRefuses x = new WellRefuses();
    x.person(0, 0);
    x.sheet(0, 8, 1);
    x.image();
    x.sheet(1, 8, 1);
    x.put(0, 0, 9);
    x.voice(0, 3, 0);
    x.days(0); // BEYOND, which stays told
    Due.is("restore", x.restore(), 0);
    Due.is("SHEETS stay", x.judge(1), -1);
    Due.is("numbers stay", x.judge(0), 0);
    Due.is("THE TRACE stays", x.count(8), 4);
    Due.is("what is told stays", x.told(1), 1);
    Due.is("how often stays", x.image(), 2);
  }

  private static void tell() {
    WellRefuses x = new WellRefuses();
    for (int i = 1; i <= 20; i++) Due.is("tell", x.tell(-i), i);
    Due.is("FULL", x.tell(0), Due.FULL);
    Due.is("20 wait", x.count(7), 20);
    Due.is("the first isn't so", x.check(), 1);
    Due.is("none waits", x.count(7), 0);
    Due.is("the first again", x.tell(0), 1);
  }

  private static void check() {
    WellRefuses x = new WellRefuses();
    Due.is("none", x.check(), 0);
    x.person(30, 1); // 7 more each day
    x.tell(7);
    x.tell(14);
    x.tell(21);
    Due.is("all are so", x.check(), 0);
    Due.is("only thought", x.count(2) + x.count(1), 0);
    x.tell(7);
    x.tell(14);
    x.tell(20);
    x.tell(28);
    Due.is("the third isn't so", x.check(), 3);
    x.tell(0);
    Due.is("the first", x.check(), 1);
    x.days(1);
    for (int i = 1; i <= 20; i++) x.tell(i == 20 ? 0 : 7 + 7 * i);
    Due.is("the last of 20", x.check(), 20);
    Due.is("none do then", x.check(), 0);
  }

  private static void count() {
    Due.of("0 PEOPLE, 1 DAY, 2 WATER of all together, 3 THIRST of all together, 4 what is OWED in all, 5 those who are GIVEN now, as a set, 6 bytes of THE TAPE, 7 numbers that wait, 8 BODIES in THE TRACE, 9 z (any number). BEYOND.");
    WellRefuses x = new WellRefuses();
    x.person(0, 1);
    x.person(0, 2);
    x.person(0, 3);
    x.days(4);
    x.change(0, 1, 500);
    x.change(1, 1, 600);
    x.change(2, 1, 0);
    x.change(0, 2, 50);
    x.change(1, 2, 0);
    x.change(2, 2, 60);
    for (int p = 0; p < 3; p++) {
      for (int q = 0; q < 3; q++) x.owe(p, q, 3 * p + q);
    }
    x.feed(0, 5);
    x.tell(1);
    x.tell(1);
    x.voice(0, 1, 1);
    x.seed(-1000000001);
    int[] due = {3, 4, 1100, 110, 1 + 2 + 3 + 5 + 6 + 7, 5, 5, 2, 2, -1000000001};
    for (int what = 0; what < 10; what++) Due.is("count " + what, x.count(what), due[what]);
    for (int p = 3; p < 8; p++) x.person(0, p);
    int[] more = {8, 4, 1100, 110, 24, 0b10101101};
    for (int what = 0; what < 6; what++) Due.is("of eight " + what, x.count(what), more[what]);
    int told = x.told(1);
    Due.is("10", x.count(10), Due.BEYOND);
    Due.is("-1", x.count(-1), Due.BEYOND);
    Due.is("told", x.told(1), told + 2);
  }

  private static void told() {
    WellRefuses x = new WellRefuses();
    for (int k = 1; k <= 5; k++) Due.is("at first", x.told(k), 0);
    Due.is("0", x.told(0), Due.BEYOND);
    Due.is("6", x.told(6), Due.BEYOND);
    Due.is("the least int", x.told(Integer.MIN_VALUE), Due.BEYOND);
    Due.is("counted, too", x.told(1), 3);
    x.trace(0);
    x.sheet(0, 8, -1);
    x.sheet(0, 16, -1);
    for (int i = 0; i < 7; i++) x.feed(0, 8);
    x.person(0, 0);
    x.as(0, 1);
    x.as(0, 2);
    x.as(0, 3);
    x.as(0, 4);
    int[] due = {0, 3, 1, 2, 1, 4};
    for (int k = 1; k <= 5; k++) Due.is("told " + k, x.told(k), due[k]);
  }
}
