/** Promises 15 to 24: what would be. None of these calls may change anything. */
public final class ThoughtTest {
  public static void main(String[] args) {
    then();
    first();
    rules();
    turn();
    cover();
    kept();
    net();
    struck();
    odds();
    dry();
    Due.done();
  }

  private static WellRefuses plain() {
    WellRefuses x = new WellRefuses();
    x.person(0, 1); // fills 3, drinks 2
    x.person(20, 0); // begs, drinks 3
    return x;
  }

  private static void unchanged(String after, WellRefuses x, int day, int water, int thirst, int owed) {
    Due.is(after + ": DAY", x.count(1), day);
    Due.is(after + ": WATER", x.count(2), water);
    Due.is(after + ": THIRST", x.count(3), thirst);
    Due.is(after + ": OWED", x.count(4), owed);
  }

  private static void then() {
    WellRefuses x = plain();
    x.change(0, 1, 2);
    Due.is("now", x.then(0, 0, 0), 2);
    // 0: 2 and 3, less 1 lent, less 2
    Due.is("WATER behind 1", x.then(1, 0, 0), 2);
    Due.is("THIRST behind 1", x.then(1, 1, 1), 2);
    Due.is("WATER of 1", x.then(1, 1, 0), 0);
    Due.is("THIRST behind 2", x.then(2, 1, 1), 4);
    Due.is("held behind 60", x.then(60, 1, 1), 99);
    Due.is("THIRST of 0", x.then(60, 0, 1), 0);
    Due.is("n -1", x.then(-1, 0, 0), Due.BEYOND);
    Due.is("n 61", x.then(61, 0, 0), Due.BEYOND);
    Due.is("nobody", x.then(0, 2, 0), Due.BEYOND);
    Due.is("below", x.then(0, -1, 0), Due.BEYOND);
    Due.is("what 2", x.then(0, 0, 2), Due.BEYOND);
    Due.is("what -1", x.then(0, 0, -1), Due.BEYOND);
    unchanged("then", x, 0, 2, 0, 0);
    x.days(1);
    Due.is("as truly", x.ofPerson(1, 4), 2);
  }

  private static void first() {
    WellRefuses x = plain();
    Due.is("THIRST 1", x.first(1, 0), 1);
    Due.is("whose", x.first(1, 1), 1);
    Due.is("THIRST 3", x.first(3, 0), 1);
    Due.is("THIRST 4", x.first(4, 0), 2);
    Due.is("THIRST 99", x.first(99, 0), 49);
    x.change(0, 2, 4);
    Due.is("now", x.first(4, 0), 0);
    Due.is("whose now", x.first(4, 1), 0);
    x.change(1, 2, 4);
    Due.is("the least", x.first(4, 1), 0);
    Due.is("only 1 goes on", x.first(5, 1), 1);
    Due.is("x 0", x.first(0, 0), Due.BEYOND);
    Due.is("x 100", x.first(100, 0), Due.BEYOND);
    Due.is("what 2", x.first(1, 2), Due.BEYOND);
    Due.is("what -1", x.first(1, -1), Due.BEYOND);
    unchanged("first", x, 0, 0, 8, 0);
    WellRefuses y = new WellRefuses();
    Due.is("nobody", y.first(1, 0), Due.NONE);
    Due.is("nobody's", y.first(1, 1), Due.NONE);
    y.person(40, 0);
    Due.is("a BRIDE by 60", y.first(60, 0), 60);
    Due.is("whose", y.first(60, 1), 0);
    Due.is("not by 60", y.first(61, 0), Due.NONE);
    y.change(0, 2, 1);
    Due.is("by 60", y.first(61, 0), 60);
    WellRefuses z = new WellRefuses();
    for (int p = 0; p < 8; p++) z.person(20, p < 7 ? 1 : 0);
    Due.text(z, 1, "0");
    Due.is("the last of eight", z.first(1, 1), 7);
    Due.is("on the next day", z.first(1, 0), 1);
  }

  private static void rules() {
    WellRefuses x = new WellRefuses();
    x.sheet(0, 32, 2);
    Due.is("nobody: all", x.rules(0, 0), 81);
    Due.is("the least of all", x.rules(0, 1), 0);
    x.person(0, 5);
    x.person(0, 4);
    x.put(0, 0, 2);
    x.put(0, 1, -1);
    Due.is("nothing known", x.rules(0, 0), 81);
    x.put(0, 0, 1);
    Due.is("5 was given: VALUE is 5 & MASK", x.rules(0, 0), 16);
    Due.is("the least gives to all", x.rules(0, 1), 0);
    x.put(0, 1, 0);
    Due.is("4 wasn't: bit 1 is in MASK", x.rules(0, 0), 8);
    Due.is("the least: MASK 1, VALUE 1", x.rules(0, 1), 17);
    // 8 rules by MASK 1 and any of 2, 4, 8: 5 with all bits as told gets 8; with bits off 4, 2, 1.
    Due.is("SEND parts 4 and 4", x.rules(0, 2), 1);
    evenly();
    x.change(1, 0, 5);
    Due.is("alike, unlike given: none", x.rules(0, 0), 0);
    Due.is("no least", x.rules(0, 1), Due.NONE);
    Due.is("SEND by none", x.rules(0, 2), 0);
    x.sheet(0, 32, 1);
    Due.is("beyond the SHEET: not known; wasn't given", x.rules(0, 0), 81 - 16);
    x.put(0, 0, 1);
    Due.is("was given", x.rules(0, 0), 16);
    x.sheet(1, 8, 40);
    for (int i = 2; i < 40; i++) x.put(1, i, 1);
    Due.is("more numbers than PEOPLE", x.rules(1, 0), 65);
    x.put(1, 0, 257);
    x.put(1, 1, 256 + 2);
    Due.is("the lowest bits", x.rules(1, 0), 16);
    Due.is("missing", x.rules(2, 0), Due.NONE);
    Due.is("BEYOND is asked first", x.rules(2, 3), Due.BEYOND);
    Due.is("sheet 4", x.rules(4, 0), Due.BEYOND);
    Due.is("sheet -1", x.rules(-1, 0), Due.BEYOND);
    Due.is("what 3", x.rules(0, 3), Due.BEYOND);
    Due.is("what -1", x.rules(0, -1), Due.BEYOND);
  }

  /** By all that two were given or not, TRAITS by TRAITS, the RULES are counted here once more. */
  private static void evenly() {
    WellRefuses y = null;
    boolean[] sent = new boolean[16];
    for (int i = 0; i < 16 * 16 * 9; i++) {
      int[] traits = {i % 16, i / 16 % 16};
      int[] was = {i / 256 % 3, i / 768};
      // No object is asked more than 512 calls.
      if (i % 100 == 0) {
        y = new WellRefuses();
        y.person(0, 0);
        y.person(0, 0);
        y.sheet(0, 8, 2);
      }
      for (int p = 0; p < 2; p++) {
        y.change(p, 0, traits[p]);
        y.put(0, p, was[p]);
      }
      int due = -1;
      int least = 1000;
      for (int t = 0; t < 16; t++) {
        int more = 0;
        for (int mask = 0; mask < 16; mask++) {
          for (int value = 0; value <= mask; value++) {
            if ((value & mask) != value || unfit(traits, was, mask, value)) continue;
            more += (t & mask) == value ? 1 : -1;
          }
        }
        if (Math.abs(more) >= least) continue;
        least = Math.abs(more);
        due = t;
      }
      sent[due] = true;
      Due.is("SEND " + i, y.rules(0, 2), due);
    }
    Due.isTrue("SEND 15", sent[15]);
  }

  private static boolean unfit(int[] traits, int[] was, int mask, int value) {
    for (int p = 0; p < 2; p++) {
      boolean gives = (traits[p] & mask) == value;
      if (was[p] == 1 && !gives || was[p] == 0 && gives) return true;
    }
    return false;
  }

  private static void turn() {
    WellRefuses x = new WellRefuses();
    x.person(0, 9);
    Due.is("t%2: the least odd", x.turn(0, 0), 1);
    Due.is("on all", x.turn(0, 1), 7);
    Due.text(x, 0, "d<t-2");
    Due.is("t 9 and more give on all", x.turn(0, 0), 9);
    Due.text(x, 0, "d=t");
    Due.is("each but 7 on one", x.turn(0, 0), 0);
    Due.is("one", x.turn(0, 1), 1);
    x.days(3);
    Due.is("from DAY 3 on, too", x.turn(0, 0), 0);
    Due.text(x, 0, "(d=0|d=3|d=5)&t=12|d=1&t=3");
    Due.is("12 on three", x.turn(0, 0), 12);
    Due.is("three", x.turn(0, 1), 3);
    Due.text(x, 0, "0");
    Due.is("never: the least", x.turn(0, 0), 0);
    Due.is("never", x.turn(0, 1), 0);
    Due.text(x, 0, "w=4&t=15");
    Due.is("other WATER", x.turn(0, 1), 0);
    x.change(0, 1, 4);
    Due.is("WATER as it is", x.turn(0, 1), 7);
    Due.is("its TRAITS", x.turn(0, 0), 15);
    Due.is("nobody", x.turn(1, 0), Due.BEYOND);
    Due.is("below", x.turn(-1, 0), Due.BEYOND);
    Due.is("what 2", x.turn(0, 2), Due.BEYOND);
    Due.is("what -1", x.turn(0, -1), Due.BEYOND);
    Due.is("TRAITS stay", x.ofPerson(0, 2), 9);
  }

  private static void cover() {
    WellRefuses x = new WellRefuses();
    Due.is("nobody needs none", x.cover(), 0);
    x.person(0, 0);
    Due.is("not GIVEN", x.cover(), Due.NONE);
    x.change(0, 0, 1);
    Due.is("one for itself", x.cover(), 1);
    x.person(0, 1);
    Due.is("both: 3 is less than 4", x.cover(), 3);
    x.person(0, 1);
    Due.is("two of three: the least set", x.cover(), 3);
    x.person(30, 1);
    Due.is("the STRANGER alone: 9 of 8", x.cover(), 8);
    x.person(30, 0);
    Due.is("10 are needed: one with it", x.cover(), 9);
    x.change(0, 0, 0);
    Due.is("0 isn't GIVEN", x.cover(), 10);
    x.become(3, 69);
    Due.is("a TWIN that fills 0", x.cover(), Due.NONE);
    x.become(3, 66);
    Due.is("3, 3 and 3: 9 of 10", x.cover(), Due.NONE);
    x.become(3, 65);
    Due.is("3, 3 and 4: just 10", x.cover(), 14);
    unchanged("cover", x, 0, 0, 0, 0);
    WellRefuses y = new WellRefuses();
    for (int p = 0; p < 8; p++) y.person(p < 6 ? 0 : 20, 1);
    Due.is("18 of 18: 6 and 6 and two of 3", y.cover(), 195);
  }

  private static void kept() {
    WellRefuses x = new WellRefuses();
    x.person(30, 1); // fills 9, drinks 2
    x.person(0, 0);
    x.person(10, 0);
    Due.is("behind 0", x.kept(0, 0), 0);
    // On each day 1 is lent 1 (lacks 1, not 2), 2 is lent 1 (lacks none).
    Due.is("behind 1", x.kept(0, 1), 6);
    Due.is("1 keeps nobody", x.kept(1, 5), 0);
    unchanged("kept", x, 0, 0, 0, 0);
    x.person(30, 1);
    Due.is("another has nothing yet when they beg", x.kept(0, 1), 6);
    x.change(3, 1, 9);
    Due.is("another lends in its place", x.kept(0, 1), 0);
    Due.is("that one keeps nobody, too", x.kept(3, 1), 0);
    Due.is("n 60", x.kept(0, 60), 0);
    Due.is("n 61", x.kept(0, 61), Due.BEYOND);
    Due.is("n -1", x.kept(0, -1), Due.BEYOND);
    Due.is("nobody", x.kept(4, 0), Due.BEYOND);
    Due.is("below", x.kept(-1, 0), Due.BEYOND);
    WellRefuses y = new WellRefuses();
    y.person(0, 0);
    y.person(0, 0);
    y.change(0, 1, 9);
    y.change(1, 1, 9);
    // Did 0 not LEND, it would have more itself, and 1 would thirst sooner.
    Due.is("behind 1 none thirsts", y.kept(0, 1), 0);
    Due.is("1 thirsts more behind 6", y.kept(0, 6), 2);
    WellRefuses z = new WellRefuses();
    z.person(0, 0);
    z.person(0, 0);
    Due.text(z, 1, "1");
    z.change(1, 1, 1);
    // 0 is lent 1 and lends it back to 1: did it not, 1 would lack it; 0 is left out.
    WellRefuses w = new WellRefuses();
    for (int p = 0; p < 7; p++) w.person(0, 0);
    w.person(30, 1);
    w.change(7, 1, 20);
    Due.is("7 keeps all others", w.kept(7, 1), 127);
    Due.is("0 keeps nobody", w.kept(0, 1), 0);
    Due.is("0 keeps 1", z.kept(0, 1), 2);
    Due.is("1 keeps nobody", z.kept(1, 1), 0);
  }

  private static void net() {
    WellRefuses x = new WellRefuses();
    for (int p = 0; p < 3; p++) x.person(0, 0);
    Due.is("none", x.net(0), 0);
    x.owe(0, 1, 7);
    x.owe(2, 0, 3);
    x.owe(1, 2, 9);
    Due.is("0", x.net(0), -4);
    Due.is("1", x.net(1), -2);
    Due.is("2", x.net(2), 6);
    Due.is("nobody", x.net(3), Due.BEYOND);
    Due.is("below", x.net(-1), Due.BEYOND);
  }

  private static void struck() {
    WellRefuses x = new WellRefuses();
    Due.is("nobody", x.struck(0), 0);
    for (int p = 0; p < 4; p++) x.person(0, 0);
    x.owe(0, 1, 5);
    x.owe(1, 0, 2);
    x.owe(1, 2, 9);
    x.owe(2, 0, 2);
    x.owe(3, 0, 1);
    // (0, 1) by 2, then (0, 1, 2) by 2: 19 less 4 less 6
    Due.is("rings", x.struck(0), 2);
    Due.is("OWED then", x.struck(1), 9);
    Due.is("only thought", x.count(4), 19);
    Due.is("what 2", x.struck(2), Due.BEYOND);
    Due.is("what -1", x.struck(-1), Due.BEYOND);
    x.change(1, 1, 9);
    Due.is("no DAY goes by", x.struck(1), 9);
    Due.is("truly", x.strike(), 2);
    Due.is("OWED", x.count(4), 9);
    Due.is("no more", x.struck(0), 0);
    Due.is("OWED as it is", x.struck(1), 9);
  }

  private static void odds() {
    WellRefuses x = new WellRefuses();
    x.person(0, 1);
    String[] texts = {"0", "d=2", "d<2", "d<3", "d<4", "d<5", "d<6", "d<7"};
    for (int i = 0; i < 8; i++) {
      Due.text(x, 0, texts[i]);
      Due.is("above " + i, x.odds(0, 0), i == 7 ? 1 : i);
      Due.is("below " + i, x.odds(0, 1), i == 0 || i == 7 ? 1 : 7);
    }
    Due.text(x, 0, "t=1&w=5&d>4");
    Due.is("other WATER", x.odds(0, 0), 0);
    x.change(0, 1, 5);
    Due.is("WATER as it is", x.odds(0, 0), 2);
    x.change(0, 0, 2);
    Due.is("other TRAITS", x.odds(0, 0), 0);
    Due.is("part 2", x.odds(0, 2), Due.BEYOND);
    Due.is("part -1", x.odds(0, -1), Due.BEYOND);
    Due.is("nobody", x.odds(1, 0), Due.BEYOND);
    Due.is("below", x.odds(-1, 0), Due.BEYOND);
  }

  private static void dry() {
    WellRefuses x = new WellRefuses();
    Due.is("nobody", x.dry(), 0);
    x.person(0, 1);
    Due.is("always GIVEN", x.dry(), Due.NONE);
    x.person(0, 0);
    Due.is("one is", x.dry(), Due.NONE);
    Due.text(x, 0, "d<5");
    Due.is("DAY 5", x.dry(), 5);
    x.days(3);
    Due.is("from DAY 3 on", x.dry(), 2);
    x.days(2);
    Due.is("on DAY 5", x.dry(), 0);
    WellRefuses y = new WellRefuses();
    y.person(0, 0);
    Due.text(y, 0, "w<60"); // 1 more each day
    Due.is("by 60", y.dry(), 60);
    Due.text(y, 0, "w<61");
    Due.is("not by 60", y.dry(), Due.NONE);
    unchanged("dry", y, 0, 0, 0, 0);
    Due.is("told 2", y.told(2), 1);
  }
}
