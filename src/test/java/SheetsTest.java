/** Promises 28 to 32: SHEETS. */
public final class SheetsTest {
  public static void main(String[] args) {
    sheet();
    put();
    move();
    traits();
    judge();
    Due.done();
  }

  /** A number can only be seen by a person's WATER (0 to 999) that it is said to be. */
  private static boolean isNumber(WellRefuses x, int sheet, int i, int v) {
    for (int p = 0; p <= i; p++) {
      if (x.count(0) <= p) x.person(0, 0);
    }
    for (int w = 0; w < i; w++) {
      for (int v2 = 0; v2 < 1000 && x.judge(sheet) == w; v2++) x.change(w, 1, v2);
    }
    x.change(i, 1, v);
    return x.judge(sheet) != i;
  }

  private static void sheet() {
    WellRefuses x = new WellRefuses();
    Due.is("sheet -1", x.sheet(-1, 8, 0), Due.BEYOND);
    Due.is("sheet 4", x.sheet(4, 8, 0), Due.BEYOND);
    Due.is("sheet 4, n -1", x.sheet(4, 8, -1), Due.BEYOND);
    Due.is("bits 9", x.sheet(0, 9, 0), Due.BEYOND);
    Due.is("bits 64, n -1", x.sheet(0, 64, -1), Due.BEYOND);
    Due.is("bits -8", x.sheet(0, -8, 0), Due.BEYOND);
    Due.is("n -1", x.sheet(0, 8, -1), Due.STATE);
    Due.is("n 41", x.sheet(0, 8, 41), Due.BEYOND);
    Due.is("still missing", x.put(0, 0, 0), Due.NONE);
    Due.is("8 bits", x.sheet(0, 8, 40), 1);
    Due.is("16 bits", x.sheet(1, 16, 0), 1);
    Due.is("32 bits", x.sheet(3, 32, 1), 1);
    Due.is("the last number", x.put(0, 39, 7), 1);
    Due.is("no more", x.put(0, 40, 7), Due.BEYOND);
    Due.is("no number", x.put(1, 0, 7), Due.BEYOND);
    Due.is("one number", x.put(3, 0, 7), 1);
    Due.is("missing, n doesn't matter", x.sheet(0, 0, -1), 1);
    Due.is("it is", x.put(0, 0, 7), Due.NONE);
    Due.is("n 99 neither", x.sheet(0, 0, 99), 1);
    Due.is("anew", x.sheet(3, 32, 1), 1);
    Due.isTrue("all 0", isNumber(x, 3, 0, 0));
    Due.is("anew and missing in between", x.sheet(3, 0, 0), 1);
    x.put(3, 0, 7);
    x.sheet(3, 16, 1);
    Due.isTrue("all 0 again", isNumber(x, 3, 0, 0));
  }

  private static void put() {
    WellRefuses x = new WellRefuses();
    x.sheet(0, 8, 2);
    x.sheet(1, 16, 1);
    x.sheet(2, 32, 1);
    Due.is("sheet 4", x.put(4, 0, 0), Due.BEYOND);
    Due.is("sheet -1", x.put(-1, 0, 0), Due.BEYOND);
    Due.is("missing", x.put(3, 0, 0), Due.NONE);
    Due.is("NONE ahead of BEYOND", x.put(3, 99, 0), Due.NONE);
    Due.is("i 2", x.put(0, 2, 0), Due.BEYOND);
    Due.is("i -1", x.put(0, -1, 0), Due.BEYOND);
    Due.is("put", x.put(0, 0, 256 + 200), 1);
    Due.isTrue("8 lowest bits", isNumber(x, 0, 0, 200));
    x.put(0, 1, -1);
    Due.isTrue("255", isNumber(x, 0, 1, 255));
    WellRefuses y = new WellRefuses();
    y.sheet(1, 16, 1);
    y.sheet(2, 32, 1);
    y.put(1, 0, 65536 * 5 + 456);
    Due.isTrue("16 lowest bits", isNumber(y, 1, 0, 456));
    y.put(2, 0, 456);
    Due.isTrue("32 bits", isNumber(y, 2, 0, 456));
    y.put(2, 0, 65536 + 456);
    Due.isTrue("all of them", !isNumber(y, 2, 0, 456));
  }

  private static void move() {
    WellRefuses x = new WellRefuses();
    x.sheet(0, 8, 5);
    x.sheet(1, 16, 5);
    x.sheet(2, 8, 3);
    Due.is("sheet 4", x.move(4, 0, 0, 0, 0), Due.BEYOND);
    Due.is("sheet -1", x.move(-1, 0, 0, 0, 0), Due.BEYOND);
    Due.is("to 4", x.move(0, 0, 4, 0, 0), Due.BEYOND);
    Due.is("to -1", x.move(3, 0, -1, 0, 0), Due.BEYOND);
    Due.is("missing", x.move(3, 0, 0, 0, 0), Due.NONE);
    Due.is("to one missing", x.move(0, -1, 3, 0, 0), Due.NONE);
    Due.is("unlike", x.move(0, -1, 1, 0, 0), Due.KIND);
    Due.is("unlike the other way", x.move(1, 0, 2, 0, 0), Due.KIND);
    Due.is("n -1", x.move(0, 0, 2, 0, -1), Due.BEYOND);
    Due.is("i -1", x.move(0, -1, 2, 0, 1), Due.BEYOND);
    Due.is("j -1", x.move(0, 0, 2, -1, 1), Due.BEYOND);
    Due.is("they don't stand there", x.move(0, 3, 2, 0, 3), Due.BEYOND);
    Due.is("nor there", x.move(0, 0, 2, 1, 3), Due.BEYOND);
    Due.is("far", x.move(0, Integer.MAX_VALUE, 2, 0, 1), Due.BEYOND);
    Due.is("too many", x.move(0, 1, 2, 1, Integer.MAX_VALUE), Due.BEYOND);
    Due.is("none at the end", x.move(0, 5, 2, 3, 0), 0);
    Due.is("none behind the end", x.move(0, 6, 2, 0, 0), Due.BEYOND);
    Due.is("to behind the end", x.move(0, 0, 2, 4, 0), Due.BEYOND);
    for (int i = 0; i < 5; i++) x.put(0, i, i + 1);
    Due.is("to another", x.move(0, 2, 2, 0, 3), 3);
    stands(x, 2, 3, 4, 5);
    Due.is("up, as they all were", x.move(0, 0, 0, 1, 4), 4);
    stands(x, 0, 1, 1, 2, 3, 4);
    Due.is("down, as they all were", x.move(0, 1, 0, 0, 4), 4);
    stands(x, 0, 1, 2, 3, 4, 4);
    Due.is("back", x.move(2, 1, 0, 3, 2), 2);
    stands(x, 0, 1, 2, 3, 4, 5);
  }

  private static void stands(WellRefuses x, int sheet, int... due) {
    while (x.count(0) < due.length) x.person(0, 0);
    for (int p = 0; p < due.length; p++) x.change(p, 1, due[p]);
    int judged = x.judge(sheet);
    Due.is("numbers", judged < 0 ? due.length : judged, due.length);
  }

  private static void traits() {
    WellRefuses x = new WellRefuses();
    x.sheet(0, 8, 4);
    Due.is("nobody", x.traits(0), 0);
    for (int p = 0; p < 3; p++) x.person(0, 9);
    x.put(0, 0, 0);
    x.put(0, 1, 15);
    x.put(0, 2, 16);
    x.put(0, 3, 3);
    Due.is("up to 16", x.traits(0), 2);
    int[] due = {0, 15, 9};
    for (int p = 0; p < 3; p++) Due.is("TRAITS " + p, x.ofPerson(p, 2), due[p]);
    x.put(0, 2, 7);
    Due.is("nobody for the fourth", x.traits(0), 3);
    Due.is("TRAITS 2", x.ofPerson(2, 2), 7);
    x.sheet(1, 32, 1);
    x.put(1, 0, -1);
    Due.is("-1", x.traits(1), 0);
    Due.is("no ERROR", x.told(1), 0);
    x.put(1, 0, 5);
    Due.is("one", x.traits(1), 1);
    Due.is("TRAITS 1 stay", x.ofPerson(1, 2), 15);
    Due.is("sheet 4", x.traits(4), Due.BEYOND);
    Due.is("sheet -1", x.traits(-1), Due.BEYOND);
    Due.is("missing", x.traits(2), Due.NONE);
  }

  private static void judge() {
    WellRefuses x = new WellRefuses();
    x.sheet(0, 16, 0);
    Due.is("none and nobody", x.judge(0), -1);
    x.sheet(0, 16, 2);
    Due.is("too many", x.judge(0), 0);
    x.person(0, 0);
    Due.is("one too many", x.judge(0), 1);
    x.person(0, 0);
    Due.is("all", x.judge(0), -1);
    x.person(0, 0);
    Due.is("one lacks", x.judge(0), 2);
    x.change(1, 1, 999);
    Due.is("1 isn't so", x.judge(0), 1);
    x.put(0, 1, 999);
    Due.is("it is", x.judge(0), 2);
    Due.is("no ERROR", x.told(1), 0);
    Due.is("sheet 4", x.judge(4), Due.BEYOND);
    Due.is("sheet -1", x.judge(-1), Due.BEYOND);
    Due.is("missing", x.judge(1), Due.NONE);
  }
}
