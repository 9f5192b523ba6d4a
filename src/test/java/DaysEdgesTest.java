/** Each sentence of the document on DAYS, draws, STRIKING and VOICES that names a boundary: promises 12 to 14, 25 to 27. */
public final class DaysEdgesTest {
  private static final int FACTOR = 1103515245;
  private static final int TERM = 12345;

  public static void main(String[] args) {
    days();
    loose();
    draws();
    seed();
    noRings();
    leastAmounts();
    ringOrder();
    fullRings();
    voice();
    voicesGoRound();
    trace();
    Due.done();
  }

  private static void days() {
    Due.of("n (1 to 60) DAYS: WATER of all together. BEYOND. STATE: DAY would be above 9999.");
    WellRefuses x = Due.people(2, 30, 1); // 7 more each DAY
    Due.is("n 0", x.days(0), Due.BEYOND);
    Due.is("n -1", x.days(-1), Due.BEYOND);
    Due.is("n 61", x.days(61), Due.BEYOND);
    for (int far : Due.FAR) Due.is("n " + far, x.days(far), Due.BEYOND);
    Due.is("no DAY went by", x.count(1), 0);
    Due.is("n 1", x.days(1), 14);
    Due.is("n 60", x.days(60), 14 + 60 * 14);
    Due.is("DAY 61", x.count(1), 61);
    WellRefuses full = Due.people(8, 30, 1);
    for (int p = 0; p < 8; p++) full.change(p, 1, 999);
    Due.is("the most of all together", full.days(60), 8 * 997);
    Due.is("nobody: none", new WellRefuses().days(60), 0);

    WellRefuses y = Due.atDay(9939);
    Due.is("61 of 60 left", y.days(61), Due.BEYOND);
    Due.is("all 60 that are left", y.days(60), 0);
    Due.is("DAY 9999", y.count(1), 9999);
    Due.is("STATE", y.days(1), Due.STATE);
    Due.is("n 60, STATE", y.days(60), Due.STATE);
    Due.is("n 0 is asked first", y.days(0), Due.BEYOND);
    Due.is("n 61 is asked first", y.days(61), Due.BEYOND);
    Due.is("DAY stays", y.count(1), 9999);
    WellRefuses z = Due.atDay(9940);
    z.person(30, 1);
    Due.is("one more than is left", z.days(60), Due.STATE);
    Due.is("nothing went by", z.count(1), 9940);
    Due.is("nobody was given", z.count(2), 0);
    Due.is("as many as are left", z.days(59), 59 * 7);
  }

  private static void loose() {
    Due.of("n (1 to 40) DAYS by draws: likewise. BEYOND. STATE: DAY would be above 9999.");
    WellRefuses x = Due.people(1, 30, 1);
    Due.text(x, 0, "1");
    Due.is("n 0", x.loose(0), Due.BEYOND);
    Due.is("n -1", x.loose(-1), Due.BEYOND);
    Due.is("n 41", x.loose(41), Due.BEYOND);
    Due.is("n 60", x.loose(60), Due.BEYOND);
    for (int far : Due.FAR) Due.is("n " + far, x.loose(far), Due.BEYOND);
    Due.is("nothing was drawn", x.count(9), 1);
    Due.is("no DAY went by", x.count(1), 0);
    Due.is("n 1", x.loose(1), 7);
    Due.is("drawn once", x.count(9), FACTOR + TERM);
    Due.is("n 40", x.loose(40), 41 * 7);
    Due.is("DAY 41", x.count(1), 41);

    WellRefuses y = Due.atDay(9959);
    y.person(0, 5);
    y.seed(77);
    Due.is("41 of 40 left", y.loose(41), Due.BEYOND);
    y.loose(39);
    int z = y.count(9);
    int traits = y.ofPerson(0, 2);
    Due.is("DAY 9998", y.count(1), 9998);
    Due.is("two of one left", y.loose(2), Due.STATE);
    Due.is("nothing was drawn then", y.count(9), z);
    Due.is("TRAITS stay", y.ofPerson(0, 2), traits);
    Due.is("DAY stays", y.count(1), 9998);
    y.loose(1);
    Due.is("DAY 9999", y.count(1), 9999);
    Due.is("STATE", y.loose(1), Due.STATE);
    Due.is("n 0 is asked first", y.loose(0), Due.BEYOND);
    Due.is("n 41 is asked first", y.loose(41), Due.BEYOND);
  }

  private static void draws() {
    Due.of("z is told (1 at first); each makes it z * 1103515245 + 12345 (an int), and gives z >>> 8.");
    Due.is("1 at first", new WellRefuses().count(9), 1);
    int[] seeds = {0, 1, -1, Integer.MIN_VALUE, Integer.MAX_VALUE, 65536, Due.BEYOND};
    for (int seed : seeds) {
      WellRefuses x = Due.people(1, 0, 0);
      x.seed(seed);
      x.loose(1);
      Due.is("z behind " + seed, x.count(9), seed * FACTOR + TERM);
    }

    Due.of("for each of PEOPLE, by numbers, a draw: if its rest by 8 is 0, TRAITS of that one are turned by the bit that is the rest by 4 of an eighth of it (cut); then a DAY.");
    WellRefuses none = new WellRefuses();
    Due.is("nobody: a DAY all the same", none.loose(1), 0);
    Due.is("nothing is drawn", none.count(9), 1);
    Due.is("DAY 1", none.count(1), 1);
    int[] drawn = {0, 1, 7, 8, 9, 15, 16, 24, 31, 32, 40, 48, 56, 0xFFFFF8, 0xFFFFFF, 0xFFFFF0};
    for (int d : drawn) {
      int bit = d % 8 == 0 ? 1 << d / 8 % 4 : 0;
      Due.is("none of the bits, " + d, turned(d, 0), bit);
      Due.is("all of them, " + d, turned(d, 15), 15 ^ bit);
    }
    WellRefuses first = Due.people(1, 30, 0);
    first.seed(seedFor(0));
    Due.is("turned, then the DAY: GIVEN", first.loose(1), 7);
    WellRefuses eight = Due.people(8, 0, 0);
    eight.loose(1);
    int z = 1;
    for (int p = 0; p < 8; p++) {
      z = z * FACTOR + TERM;
      int d = z >>> 8;
      Due.is("TRAITS of " + p, eight.ofPerson(p, 2), d % 8 == 0 ? 1 << d / 8 % 4 : 0);
    }
    Due.is("z behind eight draws", eight.count(9), z);
  }

  /** TRAITS behind the draw told. */
  private static int turned(int drawn, int traits) {
    WellRefuses x = Due.people(1, 0, traits);
    x.seed(seedFor(drawn));
    x.loose(1);
    Due.is("the draw", x.count(9) >>> 8, drawn);
    return x.ofPerson(0, 2);
  }

  /** The z by which the next draw is the one told (0 to 16777215). */
  private static int seedFor(int drawn) {
    int inverse = 1;
    for (int i = 0; i < 5; i++) inverse *= 2 - FACTOR * inverse;
    return ((drawn << 8 | 255) - TERM) * inverse;
  }

  private static void seed() {
    Due.of("z becomes v: what it was (any number).");
    WellRefuses x = new WellRefuses();
    int was = 1;
    int[] seeds = {Integer.MAX_VALUE, Integer.MIN_VALUE, 0, -1, Due.BEYOND, Due.NONE, Due.STATE, Due.FULL, Due.KIND, 1};
    for (int seed : seeds) {
      Due.is("seed " + seed, x.seed(seed), was);
      Due.is("z", x.count(9), seed);
      was = seed;
    }
    for (int k = 1; k <= 5; k++) Due.is("these are no ERRORS", x.told(k), 0);
  }

  private static void noRings() {
    Due.of("STRIKING, truly: how many were struck.");
    Due.is("nobody", new WellRefuses().strike(), 0);
    Due.is("one", Due.people(1, 0, 0).strike(), 0);
    Due.is("no debts", Due.people(8, 0, 0).strike(), 0);
    WellRefuses x = Due.people(8, 0, 0);
    for (int p = 0; p < 8; p++) {
      for (int q = p + 1; q < 8; q++) x.owe(p, q, 99);
    }
    Due.is("debts to greater numbers alone", x.strike(), 0);
    Due.is("stay", x.count(4), 28 * 99);
    WellRefuses four = Due.people(4, 0, 0);
    for (int p = 0; p < 4; p++) four.owe(p, (p + 1) % 4, 99);
    Due.is("four in a ring", four.strike(), 0);
    Due.is("stay, too", four.count(4), 4 * 99);
  }

  private static void leastAmounts() {
    Due.of("OWE by the least of these amounts less");
    int[][] pairs = {{1, 1}, {1, 99}, {99, 1}, {99, 99}, {0, 5}};
    for (int[] pair : pairs) {
      WellRefuses x = Due.people(8, 0, 0);
      x.owe(0, 7, pair[0]);
      x.owe(7, 0, pair[1]);
      int least = Math.min(pair[0], pair[1]);
      Due.is("a pair", x.strike(), least > 0 ? 1 : 0);
      Due.is("one", x.owes(0, 7), pair[0] - least);
      Due.is("the other", x.owes(7, 0), pair[1] - least);
    }
    int[][] threes = {{1, 1, 1}, {1, 2, 3}, {3, 1, 2}, {2, 3, 1}, {99, 99, 99}, {0, 9, 9}, {9, 0, 9}, {9, 9, 0}};
    for (int[] three : threes) {
      WellRefuses x = Due.people(8, 0, 0);
      x.owe(5, 7, three[0]);
      x.owe(7, 6, three[1]);
      x.owe(6, 5, three[2]);
      int least = Math.min(three[0], Math.min(three[1], three[2]));
      Due.is("three", x.strike(), least > 0 ? 1 : 0);
      Due.is("the first", x.owes(5, 7), three[0] - least);
      Due.is("the second", x.owes(7, 6), three[1] - least);
      Due.is("the third", x.owes(6, 5), three[2] - least);
    }
  }

  private static void ringOrder() {
    Due.of("the first such (two ahead of three; by the numbers of PEOPLE one behind the other, each but the first greater than the first)");
    WellRefuses two = Due.people(8, 0, 0);
    two.owe(0, 1, 5);
    two.owe(1, 2, 5);
    two.owe(2, 0, 5);
    two.owe(7, 6, 5);
    two.owe(6, 7, 5);
    two.owe(2, 1, 5);
    Due.is("(1, 2), (6, 7); the three is broken", two.strike(), 2);
    Due.is("0 still OWES 1", two.owes(0, 1), 5);
    WellRefuses second = Due.people(4, 0, 0);
    second.owe(0, 1, 1); // (0, 1, 2) and (0, 1, 3) share it
    second.owe(1, 2, 1);
    second.owe(2, 0, 1);
    second.owe(1, 3, 1);
    second.owe(3, 0, 1);
    Due.is("(0, 1, 2) alone", second.strike(), 1);
    Due.is("1 still OWES 3", second.owes(1, 3), 1);
    Due.is("1 OWES 2 no more", second.owes(1, 2), 0);
    WellRefuses first = Due.people(4, 0, 0);
    first.owe(1, 3, 1); // (0, 1, 3) and (1, 3, 2) share it
    first.owe(3, 0, 1);
    first.owe(0, 1, 1);
    first.owe(3, 2, 1);
    first.owe(2, 1, 1);
    Due.is("(0, 1, 3) alone", first.strike(), 1);
    Due.is("3 still OWES 2", first.owes(3, 2), 1);
    WellRefuses down = Due.people(4, 0, 0);
    down.owe(0, 2, 1); // (0, 2, 1) and (0, 3, 2)
    down.owe(2, 1, 1);
    down.owe(1, 0, 1);
    down.owe(0, 3, 1);
    down.owe(3, 2, 1);
    down.owe(2, 0, 1);
    Due.is("(0, 2), then no three is left", down.strike(), 1);
    Due.is("2 still OWES 1", down.owes(2, 1), 1);
    Due.is("3 still OWES 2", down.owes(3, 2), 1);
  }

  private static void fullRings() {
    Due.of("as long as there are two, or three, who OWE each the next one, the last the first");
    WellRefuses x = Due.people(8, 0, 0);
    for (int p = 0; p < 8; p++) {
      for (int q = 0; q < 8; q++) {
        if (p != q) x.owe(p, q, 99);
      }
    }
    Due.is("all OWE each other most", x.count(4), 56 * 99);
    Due.is("all pairs", x.strike(), 28);
    Due.is("nothing is OWED", x.count(4), 0);
    Due.is("none is left", x.strike(), 0);
    for (int p = 0; p < 8; p++) {
      for (int q = p + 1; q < 8; q++) x.owe((q - p) % 2 == 1 ? p : q, (q - p) % 2 == 1 ? q : p, 99);
    }
    int struck = x.struck(0);
    Due.is("threes alone", x.strike(), struck);
    Due.isTrue("there were some", struck > 0);
    Due.is("none is left of threes", x.strike(), 0);
  }

  private static void voice() {
    Due.of("A VOICE of one of PEOPLE: any number. BEYOND.");
    Due.is("nobody", new WellRefuses().voice(0, 0, 0), Due.BEYOND);
    WellRefuses x = Due.people(8, 0, 0);
    Due.is("person 7, act 0", x.voice(7, 0, 1), 8);
    Due.is("act 3", x.voice(7, 3, 1), 16 ^ 1);
    Due.is("person 8", x.voice(8, 0, 0), Due.BEYOND);
    Due.is("person -1", x.voice(-1, 0, 0), Due.BEYOND);
    Due.is("act -1", x.voice(0, -1, 0), Due.BEYOND);
    Due.is("act 4", x.voice(0, 4, 0), Due.BEYOND);
    for (int far : Due.FAR) {
      Due.is("person " + far, x.voice(far, 0, 0), Due.BEYOND);
      Due.is("act " + far, x.voice(0, far, 0), Due.BEYOND);
    }
    int told = x.told(1);
    x.become(0, 0);
    for (int k = 1; k <= 5; k++) Due.is("like an ERROR", x.voice(0, 0, -1000000000 - k), -1000000000 - k);
    Due.is("but none", x.told(1), told);
    for (int k = 2; k <= 5; k++) Due.is("but none " + k, x.told(k), 0);
  }

  /** Each BODY once at the ends of int; the one asked is number 3, m is 9. */
  private static void voicesGoRound() {
    Due.of("with a number x (ints that go round)");
    int[] ends = {Integer.MIN_VALUE, Integer.MIN_VALUE + 1, -1, 0, Integer.MAX_VALUE - 1, Integer.MAX_VALUE};
    for (int x : ends) {
      said("10", 0, 0, x, x + 3);
      said("11", 0, 1, x, (x + 3) * 2);
      said("12", 0, 2, x, x - 9);
      said("13", 0, 3, x, (x + 3) * 2 ^ x - 9);
      said("20", 1, 0, x, (x + 3) * 3);
      said("30", 2, 1, x, (x + 3) * 2 - (1 - 9));
      said("40", 3, 2, x, -(x - 9));
      said("50", 4, 3, x, ((x + 3) * 3 * 2 ^ x - 9) - (2 + 3) * 3);
      said("60", 5, 1, x, (x + 1 + 3) * 2 - (1 - 9));
      said("70", 6, 2, x, -(x - 9) ^ 3);
      said("71", 6, 3, x, (x + 3) * 2 - ((x + 3) * 2 ^ -(x - 9) ^ 3));
    }
    said("40 of the least int", 3, 2, Integer.MIN_VALUE + 9, Integer.MIN_VALUE);
  }

  private static void said(String body, int kind, int act, int v, int due) {
    WellRefuses x = Due.people(4, 10 * kind + 9, 0);
    Due.is(body + " for " + v, x.voice(3, act, v), due);
  }

  private static void trace() {
    Due.of("THE TRACE's i-th. NONE: there is none such.");
    WellRefuses x = Due.people(1, 60, 0);
    Due.is("empty", x.trace(0), Due.NONE);
    Due.is("empty: -1", x.trace(-1), Due.NONE);
    Due.is("BODIES", x.count(8), 0);
    x.voice(0, 3, 5);
    int[] due = {71, 11, 10, 13, 11, 10, 70, 40, 12};
    for (int i = 0; i < due.length; i++) Due.is("BODY " + i, x.trace(i), due[i]);
    Due.is("the longest of all: BODIES", x.count(8), 9);
    Due.is("behind the last", x.trace(9), Due.NONE);
    Due.is("39", x.trace(39), Due.NONE);
    Due.is("40", x.trace(40), Due.NONE);
    Due.is("-1", x.trace(-1), Due.NONE);
    for (int far : Due.FAR) Due.is("far " + far, x.trace(far), Due.NONE);

    Due.of("the numbers of BODIES of the latest voice(), as they began (what stands left is worked out first), the first 40.");
    Due.is("a refused voice", x.voice(0, 4, 5), Due.BEYOND);
    Due.is("isn't the latest", x.count(8), 9);
    x.voice(0, 0, 5);
    Due.is("a shorter one", x.count(8), 1);
    Due.is("its only", x.trace(0), 10);
    Due.is("no longer the second", x.trace(1), Due.NONE);
    for (int kind = 0; kind < 7; kind++) {
      x.become(0, 10 * kind);
      for (int act = 0; act < 4; act++) {
        x.voice(0, act, 1);
        Due.isTrue("never as many as 40", x.count(8) >= 1 && x.count(8) <= 9);
      }
    }
  }
}
