/** Each sentence of the document on SHEETS, images and what is told that names a boundary: terms 4, promises 28 to 38. */
public final class SheetsEdgesTest {
  public static void main(String[] args) {
    missing();
    sheet();
    bits();
    size();
    put();
    lowestBits();
    move();
    moved();
    traits();
    judge();
    image();
    kept();
    restore();
    tell();
    check();
    count();
    told();
    Due.done();
  }

  private static void missing() {
    Due.of("SHEETS 0 .. 3 are rows of 8, 16, 32 bits, at most 40 numbers, or missing (as at first).");
    WellRefuses x = new WellRefuses();
    for (int s = 0; s < 4; s++) {
      Due.is("put", x.put(s, 0, 0), Due.NONE);
      Due.is("traits", x.traits(s), Due.NONE);
      Due.is("judge", x.judge(s), Due.NONE);
      Due.is("rules", x.rules(s, 0), Due.NONE);
      Due.is("move from it to itself", x.move(s, 0, s, 0, 0), Due.NONE);
    }
    for (int s = 0; s < 4; s++) {
      Due.is("there is SHEET " + s, x.sheet(s, 8, 0), 1);
      Due.is("not missing", x.judge(s), -1);
      if (s < 3) Due.is("the next one is", x.judge(s + 1), Due.NONE);
    }
  }

  private static void sheet() {
    Due.of("A SHEET has n numbers, all 0, of so many bits (8, 16, 32; 0: it is missing, n doesn't matter): 1. BEYOND. STATE: n is below 0 (ahead of BEYOND of n).");
    WellRefuses x = new WellRefuses();
    Due.is("sheet -1", x.sheet(-1, 8, 0), Due.BEYOND);
    Due.is("sheet 4", x.sheet(4, 8, 0), Due.BEYOND);
    Due.is("sheet 4 missing", x.sheet(4, 0, 0), Due.BEYOND);
    Due.is("sheet -1, n -1: BEYOND first", x.sheet(-1, 8, -1), Due.BEYOND);
    Due.is("sheet 4, n -1: BEYOND first", x.sheet(4, 32, -1), Due.BEYOND);
    Due.is("sheet 4, n 41", x.sheet(4, 32, 41), Due.BEYOND);
    Due.is("9 bits, n -1: BEYOND first", x.sheet(0, 9, -1), Due.BEYOND);
    Due.is("n -1", x.sheet(0, 8, -1), Due.STATE);
    Due.is("n -1 of 32 bits", x.sheet(3, 32, -1), Due.STATE);
    Due.is("n 41", x.sheet(0, 8, 41), Due.BEYOND);
    for (int far : Due.FAR) {
      Due.is("sheet " + far, x.sheet(far, 8, 0), Due.BEYOND);
      Due.is("bits " + far, x.sheet(0, far, 0), Due.BEYOND);
      Due.is("n " + far, x.sheet(0, 16, far), far < 0 ? Due.STATE : Due.BEYOND);
    }
    for (int s = 0; s < 4; s++) Due.is("still missing", x.judge(s), Due.NONE);
    Due.is("there is one", x.sheet(0, 8, 1), 1);
    x.put(0, 0, 5);
    Due.is("refused", x.sheet(0, 8, 41), Due.BEYOND);
    Due.is("refused, too", x.sheet(0, 16, -1), Due.STATE);
    Due.is("refused, too", x.sheet(0, 24, 1), Due.BEYOND);
    Due.is("its number stays", firstNumber(x), 5);
    Due.is("missing, n 41", x.sheet(0, 0, 41), 1);
    Due.is("it is", x.judge(0), Due.NONE);
    int[] any = {Integer.MIN_VALUE, -1, 0, 40, 41, Integer.MAX_VALUE};
    for (int n : any) {
      x.sheet(0, 8, 1);
      Due.is("missing, n " + n, x.sheet(0, 0, n), 1);
      Due.is("it is", x.put(0, 0, 0), Due.NONE);
    }
    Due.is("missing again", x.sheet(0, 0, 0), 1);
  }

  /** The first number of SHEET 0 (0 to 15), seen by a person's TRAITS. */
  private static int firstNumber(WellRefuses x) {
    if (x.count(0) == 0) x.person(0, 0);
    x.traits(0);
    return x.ofPerson(0, 2);
  }

  private static void bits() {
    Due.of("of so many bits (8, 16, 32;");
    WellRefuses x = new WellRefuses();
    for (int bits = -33; bits <= 65; bits++) {
      boolean isTaken = bits == 0 || bits == 8 || bits == 16 || bits == 32;
      Due.is("bits " + bits, x.sheet(0, bits, 1), isTaken ? 1 : Due.BEYOND);
    }
  }

  private static void size() {
    Due.of("at most 40 numbers");
    int[] bits = {8, 16, 32};
    for (int b : bits) {
      int[] sizes = {0, 1, 39, 40};
      for (int n : sizes) {
        WellRefuses x = new WellRefuses();
        Due.is("n " + n, x.sheet(0, b, n), 1);
        Due.is("no number " + n, x.put(0, n, 1), Due.BEYOND);
        if (n > 0) Due.is("number " + (n - 1), x.put(0, n - 1, 1), 1);
        Due.is("all together, moved on themselves", x.move(0, 0, 0, 0, n), n);
        Due.is("one more isn't there", x.move(0, 0, 0, 0, n + 1), Due.BEYOND);
      }
    }
    Due.of("A SHEET has n numbers, all 0");
    WellRefuses x = Due.people(8, 0, 7);
    x.sheet(0, 32, 8);
    for (int i = 0; i < 8; i++) x.put(0, i, 9);
    x.sheet(0, 32, 8);
    Due.is("all 0 again", x.judge(0), -1);
    for (int i = 0; i < 8; i++) x.put(0, i, 9);
    x.sheet(0, 16, 4);
    x.sheet(0, 16, 8);
    Due.is("those beyond a shorter one, too", x.judge(0), -1);
  }

  private static void put() {
    Due.of("Number i of a SHEET becomes v (its lowest bits): 1. BEYOND: no such SHEET. NONE: it is missing. BEYOND: no such number.");
    WellRefuses x = new WellRefuses();
    x.sheet(0, 8, 3);
    x.sheet(1, 8, 0);
    Due.is("sheet -1", x.put(-1, 0, 0), Due.BEYOND);
    Due.is("sheet 4", x.put(4, 0, 0), Due.BEYOND);
    Due.is("missing", x.put(2, 0, 0), Due.NONE);
    Due.is("missing, no such number: NONE first", x.put(2, -1, 0), Due.NONE);
    Due.is("missing, number 40: NONE first", x.put(3, 40, 0), Due.NONE);
    Due.is("number -1", x.put(0, -1, 0), Due.BEYOND);
    Due.is("number 3", x.put(0, 3, 0), Due.BEYOND);
    Due.is("number 0 of none", x.put(1, 0, 0), Due.BEYOND);
    Due.is("number 0", x.put(0, 0, 15), 1);
    Due.is("number 2", x.put(0, 2, 14), 1);
    for (int far : Due.FAR) {
      Due.is("sheet " + far, x.put(far, 0, 0), Due.BEYOND);
      Due.is("number " + far, x.put(0, far, 0), Due.BEYOND);
      Due.is("v " + far, x.put(0, 1, far), 1);
    }
    x.put(0, 1, 1);
    x.person(0, 0);
    x.person(0, 0);
    x.person(0, 0);
    Due.is("three", x.traits(0), 3);
    Due.is("the first", x.ofPerson(0, 2), 15);
    Due.is("the second", x.ofPerson(1, 2), 1);
    Due.is("the third", x.ofPerson(2, 2), 14);
  }

  private static void lowestBits() {
    Due.of("becomes v (its lowest bits)");
    stands(8, 0, 0);
    stands(8, 127, 127);
    stands(8, 256, 0);
    stands(8, 257, 1);
    stands(8, 256 + 15, 15);
    stands(8, -256, 0);
    stands(8, -255, 1);
    stands(8, Integer.MIN_VALUE, 0);
    stands(8, 0x7FFFFF05, 5);
    stands(16, 127, 127);
    stands(16, 256, 256);
    stands(16, 999, 999);
    stands(16, 65536, 0);
    stands(16, 65536 + 999, 999);
    stands(16, -65536, 0);
    stands(16, -65535, 1);
    stands(16, Integer.MIN_VALUE, 0);
    stands(32, 999, 999);
    stands(32, 0, 0);
    isNot(8, 255, 0);
    isNot(8, -1, 0);
    isNot(16, 32768, 0);
    isNot(16, 256 + 5, 5);
    isNot(16, -1, 0);
    isNot(32, 65536, 0);
    isNot(32, 65536 + 5, 5);
    isNot(32, Integer.MIN_VALUE, 0);
    isNot(32, -1, 0);
  }

  /** v put into a SHEET of so many bits is the WATER told. */
  private static void stands(int bits, int v, int water) {
    Due.is(v + " of " + bits + " bits is " + water, judged(bits, v, water), -1);
  }

  private static void isNot(int bits, int v, int water) {
    Due.is(v + " of " + bits + " bits isn't " + water, judged(bits, v, water), 39);
  }

  private static int judged(int bits, int v, int water) {
    WellRefuses x = Due.people(1, 0, 0);
    x.sheet(3, bits, 40);
    x.put(3, 39, v);
    x.sheet(2, bits, 1);
    x.move(3, 39, 2, 0, 1);
    x.change(0, 1, water);
    return x.judge(2) == 0 ? 39 : x.judge(2);
  }

  private static void move() {
    Due.of("BEYOND: no such SHEET. NONE: one is missing. KIND: they are of unlike bits. BEYOND: n, i, or j is below 0, or they don't stand there.");
    WellRefuses x = new WellRefuses();
    x.sheet(0, 8, 5);
    x.sheet(1, 8, 3);
    x.sheet(2, 16, 5);
    int[] noSheets = {Integer.MIN_VALUE, -1, 4, Integer.MAX_VALUE};
    for (int s : noSheets) {
      Due.is("from " + s, x.move(s, 0, 0, 0, 1), Due.BEYOND);
      Due.is("to " + s, x.move(0, 0, s, 0, 1), Due.BEYOND);
      Due.is("from a missing one to " + s + ": BEYOND first", x.move(3, 0, s, 0, 1), Due.BEYOND);
      Due.is("from " + s + " to a missing one: BEYOND first", x.move(s, 0, 3, 0, 1), Due.BEYOND);
    }
    Due.is("from a missing one", x.move(3, 0, 0, 0, 1), Due.NONE);
    Due.is("to a missing one", x.move(0, 0, 3, 0, 1), Due.NONE);
    Due.is("both missing, n -1: NONE first", x.move(3, -1, 3, -1, -1), Due.NONE);
    Due.is("8 to 16", x.move(0, 0, 2, 0, 1), Due.KIND);
    Due.is("16 to 8", x.move(2, 0, 0, 0, 1), Due.KIND);
    Due.is("unlike, none", x.move(0, 0, 2, 0, 0), Due.KIND);
    Due.is("unlike, n -1: KIND first", x.move(0, 0, 2, 0, -1), Due.KIND);
    Due.is("unlike, i 9: KIND first", x.move(0, 9, 2, 0, 1), Due.KIND);
    x.sheet(3, 32, 5);
    Due.is("8 to 32", x.move(0, 0, 3, 0, 1), Due.KIND);
    Due.is("16 to 32", x.move(2, 0, 3, 0, 1), Due.KIND);
    Due.is("n -1", x.move(0, 0, 1, 0, -1), Due.BEYOND);
    Due.is("i -1", x.move(0, -1, 1, 0, 1), Due.BEYOND);
    Due.is("j -1", x.move(0, 0, 1, -1, 1), Due.BEYOND);
    Due.is("i -1, none", x.move(0, -1, 1, 0, 0), Due.BEYOND);
    Due.is("j -1, none", x.move(0, 0, 1, -1, 0), Due.BEYOND);
    Due.is("all three", x.move(0, 2, 1, 0, 3), 3);
    Due.is("one behind the end", x.move(0, 3, 1, 0, 3), Due.BEYOND);
    Due.is("one too many there", x.move(0, 0, 1, 1, 3), Due.BEYOND);
    Due.is("four of three", x.move(0, 0, 1, 0, 4), Due.BEYOND);
    Due.is("the last", x.move(0, 4, 1, 2, 1), 1);
    Due.is("i at the end", x.move(0, 5, 1, 2, 1), Due.BEYOND);
    Due.is("j at the end", x.move(0, 4, 1, 3, 1), Due.BEYOND);
    Due.is("none at the ends", x.move(0, 5, 1, 3, 0), 0);
    Due.is("none", x.move(0, 0, 1, 0, 0), 0);
    for (int far : Due.FAR) {
      Due.is("i " + far, x.move(0, far, 1, 0, 1), Due.BEYOND);
      Due.is("j " + far, x.move(0, 0, 1, far, 1), Due.BEYOND);
      Due.is("n " + far, x.move(0, 0, 1, 0, far), Due.BEYOND);
      Due.is("i and n " + far, x.move(0, far, 1, 0, far), Due.BEYOND);
      Due.is("all " + far, x.move(0, far, 1, far, far), Due.BEYOND);
    }
    Due.is("i and n go round to 0", x.move(0, 1, 1, 1, Integer.MAX_VALUE), Due.BEYOND);
    x.sheet(1, 8, 0);
    Due.is("none to none", x.move(1, 0, 1, 0, 0), 0);
    Due.is("one from none", x.move(1, 0, 0, 0, 1), Due.BEYOND);
  }

  private static void moved() {
    Due.of("n numbers of a SHEET, from number i on, come to another one (or the same), from its number j on, as they all were: n.");
    int[] bits = {8, 16, 32};
    for (int b : bits) {
      for (int i = 0; i < 5; i++) {
        for (int j = 0; j < 5; j++) {
          for (int n = 0; n <= 5 - Math.max(i, j); n++) movedOnItself(b, i, j, n);
        }
      }
    }
    WellRefuses x = Due.people(8, 0, 0);
    x.sheet(0, 16, 40);
    x.sheet(1, 16, 40);
    for (int i = 0; i < 40; i++) x.put(0, i, i % 16);
    Due.is("all 40", x.move(0, 0, 1, 0, 40), 40);
    Due.is("the last eight to the first", x.move(1, 32, 1, 0, 8), 8);
    Due.is("eight", x.traits(1), 8);
    for (int p = 0; p < 8; p++) Due.is("number " + (32 + p), x.ofPerson(p, 2), (32 + p) % 16);
  }

  private static void movedOnItself(int bits, int i, int j, int n) {
    WellRefuses x = Due.people(5, 0, 0);
    x.sheet(0, bits, 5);
    int[] due = {3, 1, 4, 15, 9};
    for (int k = 0; k < 5; k++) x.put(0, k, due[k]);
    int[] were = due.clone();
    for (int k = 0; k < n; k++) due[j + k] = were[i + k];
    Due.is("moved", x.move(0, i, 0, j, n), n);
    x.traits(0);
    for (int k = 0; k < 5; k++) Due.is("number " + k + " behind " + i + " to " + j, x.ofPerson(k, 2), due[k]);
  }

  private static void traits() {
    Due.of("Numbers of a SHEET become TRAITS of PEOPLE 0, 1, ..: how many, up to the first that is not 0 to 15 (no ERROR then), or for which there is nobody. BEYOND: no such SHEET. NONE: it is missing.");
    WellRefuses x = new WellRefuses();
    x.sheet(0, 32, 9);
    x.sheet(1, 8, 0);
    Due.is("no PEOPLE", x.traits(0), 0);
    for (int p = 0; p < 8; p++) x.person(0, 5);
    Due.is("an empty SHEET", x.traits(1), 0);
    Due.is("TRAITS stay", x.ofPerson(0, 2), 5);
    Due.is("nobody for the ninth", x.traits(0), 8);
    Due.is("the eighth", x.ofPerson(7, 2), 0);
    x.put(0, 7, 15);
    Due.is("15", x.traits(0), 8);
    Due.is("the eighth is 15", x.ofPerson(7, 2), 15);
    int[] wrong = {16, -1, 255, 256, Integer.MIN_VALUE, Integer.MAX_VALUE};
    for (int v : wrong) {
      x.put(0, 7, v);
      Due.is("up to " + v, x.traits(0), 7);
      Due.is("the eighth stays", x.ofPerson(7, 2), 15);
    }
    x.put(0, 0, 16);
    x.put(0, 1, 3);
    Due.is("the first is 16", x.traits(0), 0);
    Due.is("the second doesn't come", x.ofPerson(1, 2), 0);
    for (int k = 1; k <= 5; k++) Due.is("no ERROR", x.told(k), 0);
    x.sheet(2, 8, 3);
    x.put(2, 0, 256 + 7);
    x.put(2, 1, 12);
    x.put(2, 2, -1);
    Due.is("bytes", x.traits(2), 2);
    Due.is("7 of 8 bits", x.ofPerson(0, 2), 7);
    Due.is("12", x.ofPerson(1, 2), 12);
    Due.is("missing", x.traits(3), Due.NONE);
    Due.is("sheet -1", x.traits(-1), Due.BEYOND);
    Due.is("sheet 4", x.traits(4), Due.BEYOND);
    for (int far : Due.FAR) Due.is("sheet " + far, x.traits(far), Due.BEYOND);
  }

  private static void judge() {
    Due.of("Numbers of a SHEET are WATER of PEOPLE 0, 1, ..: the first that isn't so (one that lacks, or is too many, too); -1: all are. BEYOND: no such SHEET. NONE: it is missing.");
    WellRefuses x = new WellRefuses();
    x.sheet(0, 16, 0);
    Due.is("no numbers, no PEOPLE", x.judge(0), -1);
    x.sheet(1, 16, 1);
    Due.is("one number, no PEOPLE", x.judge(1), 0);
    x.person(0, 0);
    Due.is("no numbers, one", x.judge(0), 0);
    Due.is("one number, one", x.judge(1), -1);
    for (int p = 1; p < 8; p++) x.person(0, 0);
    x.sheet(2, 16, 7);
    Due.is("the eighth lacks", x.judge(2), 7);
    x.sheet(2, 16, 8);
    Due.is("eight", x.judge(2), -1);
    x.sheet(2, 16, 9);
    Due.is("the ninth is too many", x.judge(2), 8);
    x.sheet(2, 16, 40);
    Due.is("the ninth of 40", x.judge(2), 8);
    x.sheet(2, 16, 8);
    for (int p = 7; p >= 0; p--) {
      x.change(p, 1, 999 - p);
      Due.is(p + " isn't so", x.judge(2), p);
    }
    for (int p = 0; p < 8; p++) {
      x.put(2, p, 999 - p);
      Due.is(p + " is", x.judge(2), p == 7 ? -1 : p + 1);
    }
    for (int k = 1; k <= 5; k++) Due.is("no ERROR", x.told(k), 0);
    Due.is("missing", x.judge(3), Due.NONE);
    Due.is("sheet -1", x.judge(-1), Due.BEYOND);
    Due.is("sheet 4", x.judge(4), Due.BEYOND);
    for (int far : Due.FAR) Due.is("sheet " + far, x.judge(far), Due.BEYOND);
  }

  private static void image() {
    Due.of("is kept as an IMAGE, in place of one ahead: how often that was done.");
    WellRefuses x = new WellRefuses();
    for (int i = 1; i <= 300; i++) Due.is("how often", x.image(), i);
    x.restore();
    Due.is("that isn't brought back", x.image(), 301);
    x.days(9);
    x.image();
    x.days(9);
    x.image();
    x.days(9);
    Due.is("the latest, in place of those ahead", x.restore(), 18);
  }

  /** All that is kept, at its ends: brought back from a new object's IMAGE, and from a full one's. */
  private static void kept() {
    Due.of("All (but SHEETS, THE TRACE, what told() tells, and how often this was done)");
    WellRefuses x = new WellRefuses();
    x.image();
    fill(x);
    Due.is("all that is full", x.count(0) + x.count(6) + x.count(7), 8 + 50 + 20);
    Due.is("back to a new object's", x.restore(), 0);
    for (int what = 0; what < 8; what++) Due.is("count " + what, x.count(what), 0);
    Due.is("z", x.count(9), 1);
    Due.is("no TEXT of GIVES", x.law(0, 1, 0, 0) * 2 + x.law(0, 2, 0, 0), 2);
    Due.is("no TEXT of LENDS", x.law(1, 4, 0, 0) * 2 + x.law(1, 3, 0, 0), 2);
    Due.is("SHEETS stay", x.judge(0), 0);
    Due.is("THE TRACE stays", x.count(8), 2);
    for (int p = 0; p < 8; p++) Due.is("PEOPLE come anew", x.person(0, 0), p);
    for (int p = 0; p < 8; p++) {
      for (int what = 0; what < 5; what++) Due.is("as at first", x.ofPerson(p, what), 0);
      Due.is("owes nothing", x.owes(p, p == 0 ? 7 : 0), 0);
    }

    WellRefuses full = new WellRefuses();
    fill(full);
    full.image();
    empty(full);
    full.sheet(0, 0, 0);
    Due.is("back to a full one's", full.restore(), 60);
    Due.is("PEOPLE", full.count(0), 8);
    Due.is("WATER", full.count(2), 8 * 999);
    Due.is("THIRST", full.count(3), 8 * 99);
    Due.is("OWED", full.count(4), 56 * 99);
    Due.is("bytes", full.count(6), 50);
    Due.is("numbers that wait", full.count(7), 20);
    Due.is("z", full.count(9), Integer.MIN_VALUE);
    Due.is("TEXT of GIVES", full.law(0, 2, 0, 0) * 2 + full.law(0, 1, 0, 0), 2);
    Due.is("TEXT of LENDS", full.law(1, 3, 0, 0) * 2 + full.law(1, 4, 0, 0), 2);
    for (int p = 0; p < 8; p++) {
      int[] due = {6, 9, 15, 999, 99};
      for (int what = 0; what < 5; what++) Due.is("of " + p + " " + what, full.ofPerson(p, what), due[what]);
    }
    Due.is("the SHEET stays missing", full.judge(0), Due.NONE);
    Due.is("THE TAPE's last byte", full.text(0), -10 - 49);
    Due.is("the last number that waits", full.check(), 20);
  }

  private static void fill(WellRefuses x) {
    x.days(60);
    for (int p = 0; p < 8; p++) {
      x.person(69, 15);
      x.change(p, 1, 999);
      x.change(p, 2, 99);
    }
    for (int p = 0; p < 8; p++) {
      for (int q = 0; q < 8; q++) {
        if (p != q) x.owe(p, q, 99);
      }
    }
    Due.text(x, 0, "t=2");
    Due.text(x, 1, "w=3");
    Due.feed(x, "t+t+t+t+t+t+t+t+t+t+t+t+t+t+t+t+t+t+t+t+t+t+t+t+tt");
    for (int i = 1; i <= 20; i++) x.tell(i == 20 ? 0 : 8 * (999 - 2 * i)); // none is GIVEN, none LENDS
    x.seed(Integer.MIN_VALUE);
    x.sheet(0, 8, 40);
    x.put(0, 0, 1);
    x.voice(0, 1, 0);
  }

  private static void empty(WellRefuses x) {
    for (int p = 0; p < 8; p++) {
      x.become(p, 0);
      x.change(p, 0, 0);
      x.change(p, 1, 0);
      x.change(p, 2, 0);
    }
    for (int p = 0; p < 8; p++) {
      for (int q = 0; q < 8; q++) {
        if (p != q) x.owe(p, q, 0);
      }
    }
    x.text(0);
    Due.text(x, 0, "0");
    Due.text(x, 1, "0");
    Due.feed(x, "0000");
    x.check();
    x.seed(5);
    x.days(1);
  }

  private static void restore() {
    Due.of("All is as the IMAGE has it, which stays: DAY. NONE: there is none.");
    WellRefuses x = new WellRefuses();
    Due.is("none", x.restore(), Due.NONE);
    x.days(3);
    Due.is("still none", x.restore(), Due.NONE);
    Due.is("DAY stays", x.count(1), 3);
    x.image();
    x.days(4);
    for (int i = 0; i < 5; i++) {
      Due.is("it stays", x.restore(), 3);
      x.days(5);
      x.person(0, 0);
      Due.is("one person more each time", x.count(0), 1);
    }
    WellRefuses last = Due.atDay(9999);
    last.image();
    Due.is("DAY 9999", last.restore(), 9999);
    Due.is("no more", last.days(1), Due.STATE);
  }

  private static void tell() {
    Due.of("One more number waits: how many. FULL: 20 wait.");
    WellRefuses x = new WellRefuses();
    int[] any = {Integer.MIN_VALUE, -1, 0, 1, Due.BEYOND, Integer.MAX_VALUE};
    for (int i = 1; i <= 20; i++) Due.is("tell", x.tell(any[i % any.length]), i);
    Due.is("the 21st", x.tell(0), Due.FULL);
    Due.is("the 22nd", x.tell(0), Due.FULL);
    Due.is("20 wait", x.count(7), 20);
    x.check();
    for (int i = 1; i <= 20; i++) Due.is("tell again", x.tell(0), i);
    Due.is("FULL again", x.tell(0), Due.FULL);
    Due.is("the refused one doesn't wait: all are so", x.check(), 0);
  }

  private static void check() {
    Due.of("The numbers that wait (none do then) are WATER of all together behind 1, 2, .. DAYS: 0; else 1 and the place (from 0) of the first that isn't so.");
    WellRefuses x = Due.people(8, 30, 1); // 56 more each DAY
    Due.is("none wait", x.check(), 0);
    for (int wrong = 0; wrong <= 20; wrong++) {
      for (int i = 0; i < 20; i++) x.tell(i < wrong ? 56 * (i + 1) : -1);
      Due.is("the first wrong one at " + wrong, x.check(), wrong == 20 ? 0 : 1 + wrong);
      Due.is("none wait then", x.count(7), 0);
    }
    Due.is("DAY stays", x.count(1), 0);
    Due.is("WATER stays", x.count(2), 0);
    WellRefuses none = new WellRefuses();
    none.tell(0);
    Due.is("no PEOPLE: 0", none.check(), 0);
    none.tell(Integer.MAX_VALUE);
    Due.is("no PEOPLE: not so", none.check(), 1);
    none.tell(Integer.MIN_VALUE);
    Due.is("no PEOPLE: not so, either", none.check(), 1);
  }

  private static void count() {
    Due.of("8 BODIES in THE TRACE, 9 z (any number). BEYOND.");
    WellRefuses x = new WellRefuses();
    for (int what = 0; what < 9; what++) Due.is("nothing there yet: " + what, x.count(what), 0);
    Due.is("z at first", x.count(9), 1);
    Due.is("-1", x.count(-1), Due.BEYOND);
    Due.is("10", x.count(10), Due.BEYOND);
    for (int far : Due.FAR) Due.is("what " + far, x.count(far), Due.BEYOND);
    Due.of("5 those who are GIVEN now, as a set");
    WellRefuses all = Due.people(8, 0, 15);
    Due.is("all", all.count(5), 255);
    all.change(7, 0, 14);
    Due.is("all but 7", all.count(5), 127);
    all.change(0, 0, 0);
    Due.is("all but 0 and 7", all.count(5), 126);
    Due.text(all, 0, "0");
    Due.is("none", all.count(5), 0);
    Due.of("2 WATER of all together, 3 THIRST of all together, 4 what is OWED in all");
    fill(all);
    Due.is("the most WATER", all.count(2), 7992);
    Due.is("the most THIRST", all.count(3), 792);
    Due.is("the most OWED", all.count(4), 5544);
  }

  private static void told() {
    Due.of("How many acts have answered an ERROR LOW - k (k 1 .. 5); BEYOND: another k (counted, too).");
    WellRefuses x = new WellRefuses();
    for (int k = 1; k <= 5; k++) Due.is("none yet", x.told(k), 0);
    Due.is("k 0", x.told(0), Due.BEYOND);
    Due.is("counted", x.told(1), 1);
    Due.is("k 6", x.told(6), Due.BEYOND);
    Due.is("k -1", x.told(-1), Due.BEYOND);
    Due.is("counted, too", x.told(1), 3);
    for (int far : Due.FAR) Due.is("k " + far, x.told(far), Due.BEYOND);
    Due.is("all of them", x.told(1), 3 + Due.FAR.length);
    for (int k = 2; k <= 5; k++) Due.is("no other", x.told(k), 0);
    WellRefuses y = Due.people(1, 0, 0);
    for (int i = 1; i <= 60; i++) {
      y.count(10);
      y.restore();
      y.sheet(0, 8, -1);
      y.as(0, 1);
      for (int k = 1; k <= 5; k++) Due.is("told " + k, y.told(k), k == 4 ? 0 : i);
      if (i == 50) break;
    }
    WellRefuses z = Due.people(8, 0, 0);
    for (int i = 0; i < 400; i++) z.person(0, 0);
    Due.is("400 times FULL", z.told(4), 400);
    Due.is("no other", z.told(1) + z.told(2) + z.told(3) + z.told(5), 0);
  }
}
