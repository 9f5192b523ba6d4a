/** Each sentence of the document on what would be that names a boundary: terms 3, promises 15 to 24. */
public final class ThoughtEdgesTest {
  public static void main(String[] args) {
    beyondLastDay();
    then();
    first();
    rulesCounted();
    rulesKnown();
    rulesTold();
    send();
    rulesRefused();
    turn();
    cover();
    kept();
    net();
    struck();
    odds();
    dry();
    Due.done();
  }

  private static void beyondLastDay() {
    Due.of("(All this is only thought, DAY beyond 9999, too.)");
    WellRefuses x = Due.atDay(9999); // the rest by 7 is 3
    x.person(30, 0);
    x.person(0, 0);
    Due.text(x, 0, "d=2&t=0");
    Due.text(x, 1, "0");
    x.change(0, 1, 14);
    x.change(1, 1, 12);
    Due.is("no real DAY more", x.days(1), Due.STATE);
    // Each drinks 2; at DAY 10005 (the rest is 2), and 7 DAYS on, both are GIVEN.
    Due.is("WATER behind 6", x.then(6, 0, 0), 2);
    Due.is("WATER behind 7", x.then(7, 0, 0), 9);
    Due.is("THIRST behind 60", x.then(60, 1, 1), 7);
    Due.is("FIRST", x.first(1, 0), 8);
    Due.is("whose", x.first(1, 1), 1);
    Due.is("TURN", x.turn(0, 1), 1);
    Due.is("DRY", x.dry(), 0);
    Due.text(x, 0, "!(d=1)");
    Due.is("DRY at DAY 10004", x.dry(), 5);
    Due.text(x, 0, "d=3");
    x.tell(14 + 12 + 12 - 4);
    x.tell(14 + 12 + 12 - 8);
    Due.is("check", x.check(), 0);
    Due.text(x, 0, "0");
    Due.text(x, 1, "w>8");
    Due.is("KEPT behind 6", x.kept(0, 6), 2);
    Due.is("KEPT behind 60: THIRST is 99 either way", x.kept(0, 60), 0);
    Due.is("DAY stays", x.count(1), 9999);
    Due.is("WATER stays", x.count(2), 26);
    Due.is("THIRST stays", x.count(3), 0);
    Due.is("OWED stays", x.count(4), 0);
  }

  private static void then() {
    Due.of("BEHIND n DAYS (0 to 60).");
    WellRefuses x = Due.people(8, 30, 1);
    x.change(7, 1, 5);
    x.change(7, 2, 6);
    Due.is("behind 0: WATER", x.then(0, 7, 0), 5);
    Due.is("behind 0: THIRST", x.then(0, 7, 1), 6);
    Due.is("behind 1: WATER", x.then(1, 7, 0), 12);
    Due.is("behind 1: THIRST", x.then(1, 7, 1), 0);
    Due.is("behind 60", x.then(60, 7, 0), 425);
    Due.is("behind 60: 0", x.then(60, 0, 0), 420);

    Due.of("BEHIND n DAYS, of one: what 0 WATER, 1 THIRST. BEYOND.");
    Due.is("n -1", x.then(-1, 0, 0), Due.BEYOND);
    Due.is("n 61", x.then(61, 0, 0), Due.BEYOND);
    Due.is("person -1", x.then(0, -1, 0), Due.BEYOND);
    Due.is("person 8", x.then(0, 8, 0), Due.BEYOND);
    Due.is("what -1", x.then(0, 0, -1), Due.BEYOND);
    Due.is("what 2", x.then(0, 0, 2), Due.BEYOND);
    for (int far : Due.FAR) {
      Due.is("n " + far, x.then(far, 0, 0), Due.BEYOND);
      Due.is("person " + far, x.then(0, far, 0), Due.BEYOND);
      Due.is("what " + far, x.then(0, 0, far), Due.BEYOND);
    }
    Due.is("no PEOPLE", new WellRefuses().then(0, 0, 0), Due.BEYOND);
    for (int p = 0; p < 7; p++) x.change(p, 1, 999);
    Due.is("held WATER", x.then(60, 0, 0), 997);
    Due.text(x, 0, "0");
    Due.text(x, 1, "0");
    Due.is("held THIRST", x.then(52, 7, 1), 99);
    Due.is("THIRST goes on from what it is", x.then(3, 7, 1), 1);
    Due.is("just ahead of it, 0", x.then(2, 7, 1), 0);
  }

  private static void first() {
    Due.of("FIRST for x (1 to 99): behind how many DAYS (0 to 60) THIRST of any is x or more first; whose (the least).");
    WellRefuses x = Due.people(8, 30, 1);
    Due.text(x, 0, "t");
    Due.is("nobody thirsts", x.first(1, 0), Due.NONE);
    x.change(7, 2, 1);
    Due.is("x 1: now", x.first(1, 0), 0);
    Due.is("7's", x.first(1, 1), 7);
    Due.is("x 2: never", x.first(2, 0), Due.NONE);
    Due.is("nobody's", x.first(2, 1), Due.NONE);
    x.change(5, 2, 99);
    Due.is("x 99: now", x.first(99, 0), 0);
    Due.is("5's", x.first(99, 1), 5);
    Due.is("x 1: 5's, not 7's", x.first(1, 1), 5);
    x.change(3, 2, 98);
    Due.is("x 98: the least", x.first(98, 1), 3);
    Due.is("x 99: 98 is less", x.first(99, 1), 5);
    x.change(0, 0, 0);
    Due.text(x, 1, "0");
    x.change(3, 2, 0);
    x.change(5, 2, 0);
    x.change(7, 2, 0);
    Due.is("0 lacks 2 on the first DAY", x.first(2, 0), 1);
    Due.is("and 3 on none but the second", x.first(3, 0), 2);

    WellRefuses saint = Due.people(1, 10, 0); // lacks 1 each DAY
    for (int n = 1; n <= 60; n++) Due.is("a SAINT's " + n, saint.first(n, 0), n);
    Due.is("61 isn't by 60", saint.first(61, 0), Due.NONE);
    saint.change(0, 2, 39);
    Due.is("99 on the 60th", saint.first(99, 0), 60);
    Due.is("whose on the 60th", saint.first(99, 1), 0);
    saint.change(0, 2, 38);
    Due.is("99 on the 61st", saint.first(99, 0), Due.NONE);

    Due.of("FIRST: what 0 behind how many DAYS, 1 whose. BEYOND. NONE: not by 60.");
    Due.is("x 0", saint.first(0, 0), Due.BEYOND);
    Due.is("x -1", saint.first(-1, 0), Due.BEYOND);
    Due.is("x 100", saint.first(100, 0), Due.BEYOND);
    Due.is("what -1", saint.first(99, -1), Due.BEYOND);
    Due.is("what 2, not by 60: BEYOND first", saint.first(99, 2), Due.BEYOND);
    for (int far : Due.FAR) {
      Due.is("x " + far, saint.first(far, 0), Due.BEYOND);
      Due.is("what " + far, saint.first(1, far), Due.BEYOND);
    }
    Due.is("no PEOPLE", new WellRefuses().first(1, 0), Due.NONE);
    Due.is("no PEOPLE, x 0", new WellRefuses().first(0, 0), Due.BEYOND);
  }

  /** PEOPLE with TRAITS told, and SHEET 0 with numbers told. */
  private static WellRefuses sent(int[] traits, int... given) {
    WellRefuses x = new WellRefuses();
    for (int t : traits) x.person(0, t);
    x.sheet(0, 32, given.length);
    for (int i = 0; i < given.length; i++) x.put(0, i, given[i]);
    return x;
  }

  private static void rulesCounted() {
    Due.of("MASK and VALUE, 0 to 15 each, VALUE having no bit that MASK has not");
    Due.is("no PEOPLE, no numbers: all", sent(new int[] {}).rules(0, 0), 81);
    Due.is("no PEOPLE: all", sent(new int[] {}, 1, 0, 1).rules(0, 0), 81);
    for (int t = 0; t < 16; t++) {
      Due.is("one was given: a VALUE by each MASK, " + t, sent(new int[] {t}, 1).rules(0, 0), 16);
      Due.is("one wasn't: all others, " + t, sent(new int[] {t}, 0).rules(0, 0), 65);
    }
    Due.is("all unlike were given: MASK 0", sent(new int[] {0, 15}, 1, 1).rules(0, 0), 1);
    Due.is("it gives to all", sent(new int[] {0, 15}, 1, 1).rules(0, 1), 0);
  }

  private static void rulesKnown() {
    Due.of("(other numbers: not known; beyond the SHEET likewise; more numbers than PEOPLE do not matter)");
    int[] unknown = {2, -1, 3, 15, 255, 256, 257, Integer.MIN_VALUE, Integer.MAX_VALUE};
    for (int number : unknown) Due.is("number " + number, sent(new int[] {5}, number).rules(0, 0), 81);
    Due.is("an empty SHEET", sent(new int[] {5, 6}).rules(0, 0), 81);
    Due.is("beyond the SHEET", sent(new int[] {5, 6}, 1).rules(0, 0), 16);
    Due.is("more numbers than PEOPLE", sent(new int[] {5}, 1, 0, 0, 1).rules(0, 0), 16);
    int[] eight = {1, 3, 5, 7, 9, 11, 13, 15};
    WellRefuses x = sent(eight, 1, 1, 1, 1, 1, 1, 1, 1, 0, 1);
    Due.is("eight odd were given", x.rules(0, 0), 2);
    Due.is("the ninth number doesn't matter", x.rules(0, 1), 0);
    x.put(0, 7, 0);
    Due.is("the eighth does", x.rules(0, 0), 0);
    WellRefuses bytes = sent(new int[] {5}, 0);
    bytes.sheet(0, 8, 40);
    Due.is("40 numbers", bytes.rules(0, 0), 65);
    bytes.put(0, 0, 256 + 1);
    Due.is("8 bits of 257: given", bytes.rules(0, 0), 16);
  }

  private static void rulesTold() {
    Due.of("it is told as 16 times MASK, and VALUE");
    WellRefuses last = sent(new int[] {15, 14, 13, 11, 7}, 1, 0, 0, 0, 0);
    Due.is("the last of all: how many", last.rules(0, 0), 1);
    Due.is("the last of all", last.rules(0, 1), 255);
    WellRefuses zeros = sent(new int[] {0, 1, 2, 4, 8}, 1, 0, 0, 0, 0);
    Due.is("MASK 15, VALUE 0", zeros.rules(0, 1), 240);
    Due.is("MASK 1, VALUE 0", sent(new int[] {0, 1}, 1, 0).rules(0, 1), 16);
    Due.is("MASK 1, VALUE 1", sent(new int[] {0, 1}, 0, 1).rules(0, 1), 17);
    Due.is("MASK 8, VALUE 8", sent(new int[] {0, 8}, 0, 1).rules(0, 1), 136);
  }

  private static void send() {
    Due.of("SEND: TRAITS (0 to 15) by which those RULES would be parted most evenly: the difference between how many give to these, how many don't (without sign) being least; of several the least");
    Due.is("by all of 81 each gets 16", sent(new int[] {}).rules(0, 2), 0);
    Due.is("by no RULES", sent(new int[] {3, 3}, 1, 0).rules(0, 2), 0);
    Due.is("by one alone, which gives to 15", sent(new int[] {15, 14, 13, 11, 7}, 1, 0, 0, 0, 0).rules(0, 2), 0);
    // MASKS and VALUES that give to 15: 2 of 4 by bits 1 and 2, 4 and 8 being told apart already.
    Due.is("MASK 12 and more: 12 gets 1, 13 and 14 get 2 of 4", sent(new int[] {15, 11, 7}, 1, 0, 0).rules(0, 2), 13);
    int[] sums = new int[16];
    for (int seed = 1; seed <= 600; seed++) sums[sendOfMany(seed)]++;
    int seen = 0;
    for (int sum : sums) seen += sum > 0 ? 1 : 0;
    Due.isTrue("many TRAITS were sent: " + seen, seen >= 10);
  }

  /** Three to eight PEOPLE, by a seed; SEND is worked out once more. */
  private static int sendOfMany(int seed) {
    int z = seed;
    int many = 3 + seed % 6;
    int[] traits = new int[many];
    int[] given = new int[many];
    z = z * 1103515245 + 12345;
    int mask = z >>> 16 & 15;
    int value = z >>> 20 & mask;
    for (int p = 0; p < many; p++) {
      z = z * 1103515245 + 12345;
      traits[p] = z >>> 16 & 15;
      given[p] = (z >>> 24) % 4 == 0 ? 2 : (traits[p] & mask) == value ? 1 : 0;
    }
    int due = -1;
    int least = 1000;
    for (int t = 0; t < 16; t++) {
      int give = 0;
      int all = 0;
      for (int rule = 0; rule < 256; rule++) {
        if (!fits(rule, traits, given)) continue;
        all++;
        if ((t & rule >> 4) == (rule & 15)) give++;
      }
      int difference = Math.abs(give - (all - give));
      if (difference < least) due = t;
      least = Math.min(least, difference);
    }
    Due.is("SEND, seed " + seed, sent(traits, given).rules(0, 2), due);
    return due;
  }

  private static boolean fits(int rule, int[] traits, int[] given) {
    int mask = rule >> 4;
    int value = rule & 15;
    if ((value | mask) != mask) return false;
    for (int p = 0; p < traits.length; p++) {
      boolean gives = (traits[p] & mask) == value;
      if (given[p] == 1 && !gives || given[p] == 0 && gives) return false;
    }
    return true;
  }

  private static void rulesRefused() {
    Due.of("RULES, by a SHEET: what 0 how many, 1 the least, 2 SEND. BEYOND. NONE: the SHEET is missing; (what 1) there is none.");
    WellRefuses x = sent(new int[] {3, 3}, 1, 0);
    Due.is("there is none: how many", x.rules(0, 0), 0);
    Due.is("there is none: the least", x.rules(0, 1), Due.NONE);
    Due.is("there is none: SEND", x.rules(0, 2), 0);
    Due.is("told once", x.told(2), 1);
    for (int what = 0; what < 3; what++) {
      Due.is("missing " + what, x.rules(3, what), Due.NONE);
      Due.is("sheet 4, " + what, x.rules(4, what), Due.BEYOND);
      Due.is("sheet -1, " + what, x.rules(-1, what), Due.BEYOND);
    }
    Due.is("what -1", x.rules(0, -1), Due.BEYOND);
    Due.is("what 3", x.rules(0, 3), Due.BEYOND);
    Due.is("missing, what 3: BEYOND first", x.rules(3, 3), Due.BEYOND);
    Due.is("missing, what -1: BEYOND first", x.rules(3, -1), Due.BEYOND);
    for (int far : Due.FAR) {
      Due.is("sheet " + far, x.rules(far, 0), Due.BEYOND);
      Due.is("what " + far, x.rules(0, far), Due.BEYOND);
    }
  }

  private static void turn() {
    Due.of("TURN of one: TRAITS (0 to 15) with which one would be GIVEN (WATER as it is) on most of the next 7 DAYS (this one first); of several the least; on how many.");
    turned("t=15&d=6", 15, 1);
    turned("t=0&d=0", 0, 1);
    turned("t=15", 15, 7);
    turned("1", 0, 7);
    turned("0", 0, 0);
    turned("t>15", 0, 0);
    turned("t>0", 1, 7);
    turned("t>13", 14, 7);
    turned("t=1&d=0", 1, 1);
    turned("t=3&d<6|t=9&d<6", 3, 6);
    turned("t=3&d<5|t=9&d<6", 9, 6);
    turned("t=7|t=15", 7, 7);
    turned("w=0&t=5", 5, 7);
    turned("w=1&t=5", 0, 0);

    Due.of("TURN: what 0 TRAITS, 1 on how many. BEYOND.");
    WellRefuses x = Due.people(8, 0, 0);
    Due.is("person 7", x.turn(7, 1), 7);
    Due.is("person 8", x.turn(8, 0), Due.BEYOND);
    Due.is("person -1", x.turn(-1, 0), Due.BEYOND);
    Due.is("what 2", x.turn(0, 2), Due.BEYOND);
    Due.is("what -1", x.turn(0, -1), Due.BEYOND);
    for (int far : Due.FAR) {
      Due.is("person " + far, x.turn(far, 0), Due.BEYOND);
      Due.is("what " + far, x.turn(0, far), Due.BEYOND);
    }
    Due.is("no PEOPLE", new WellRefuses().turn(0, 0), Due.BEYOND);
  }

  /** On each DAY of a week: seven DAYS have each rest once. */
  private static void turned(String text, int traits, int many) {
    WellRefuses x = Due.people(1, 0, 4);
    Due.text(x, 0, text);
    for (int day = 0; day < 7; day++) {
      Due.is("TRAITS by " + text, x.turn(0, 0), traits);
      Due.is("on how many by " + text, x.turn(0, 1), many);
      x.days(1);
      x.change(0, 1, 0);
    }
    Due.is("its TRAITS stay", x.ofPerson(0, 2), 4);
  }

  private static void cover() {
    Due.of("COVER: the fewest of those who are GIVEN now whose FILLS together are no less than what all DRINK; of several sets the least.");
    Due.is("no PEOPLE: the empty set", new WellRefuses().cover(), 0);
    Due.is("eight TWINS, 16 of 16", Due.people(8, 67, 1).cover(), 255);
    WellRefuses one = Due.people(8, 67, 1);
    one.become(7, 66);
    Due.is("17 of 16: all the same", one.cover(), 255);
    one.become(6, 66);
    Due.is("18 of 16: one less, the least set", one.cover(), 255 - 32);
    Due.is("7 with 9, 6 with 9", bigOnes(7, 6).cover(), 192);
    Due.is("the first two", bigOnes(0, 1).cover(), 3);
    Due.is("0 and 7", bigOnes(0, 7).cover(), 129);
    Due.is("of three the least set", bigOnes(2, 5, 7).cover(), 36);
    WellRefuses x = Due.people(2, 0, 1);
    x.become(0, 64); // fills 5 of 4
    x.become(1, 64);
    Due.is("either alone: the least", x.cover(), 1);
    x.change(0, 0, 0);
    Due.is("who isn't GIVEN doesn't count", x.cover(), 2);
    WellRefuses fewest = Due.people(3, 0, 1);
    Due.is("6 of 6 by two", fewest.cover(), 3);
    fewest.become(2, 30);
    Due.is("one alone ahead of a lesser set of two", fewest.cover(), 4);
    x.become(1, 65);
    Due.is("4 of 4", x.cover(), 2);
    x.become(1, 66);
    Due.is("3 of 4", x.cover(), Due.NONE);

    Due.of("COVER: the set. NONE: not by all.");
    WellRefuses less = Due.people(8, 67, 1);
    less.become(4, 68);
    Due.is("15 of 16", less.cover(), Due.NONE);
    Due.is("nobody is GIVEN", Due.people(8, 30, 0).cover(), Due.NONE);
    Due.is("one not GIVEN", Due.people(1, 30, 0).cover(), Due.NONE);
    Due.is("a TWIN who fills nothing", Due.people(1, 69, 1).cover(), Due.NONE);
    Due.is("told", less.told(2), 1);
  }

  /** Eight who drink 2 each; those told fill 9 each, the others nothing. */
  private static WellRefuses bigOnes(int... which) {
    WellRefuses x = Due.people(8, 69, 1);
    for (int p : which) x.become(p, 30);
    return x;
  }

  private static void kept() {
    Due.of("KEPT: those whose THIRST would be more behind n DAYS than it is as told, did a told one not LEND, as a set (that one left out).");
    WellRefuses x = Due.people(8, 0, 0);
    x.become(7, 39);
    x.change(7, 1, 999);
    Due.text(x, 1, "m=9");
    Due.is("behind 0: none", x.kept(7, 0), 0);
    Due.is("behind 1: all others", x.kept(7, 1), 127);
    Due.is("behind 60: THIRST is 99 without, 60 with", x.kept(7, 60), 127);
    x.change(3, 2, 99);
    Due.is("held at 99 with and without: not more", x.kept(7, 1), 127 - 8);
    Due.is("who doesn't LEND keeps nobody", x.kept(0, 60), 0);
    Due.is("THIRST stays", x.count(3), 99);
    Due.is("OWED stays", x.count(4), 0);
    WellRefuses self = Due.people(2, 0, 0);
    Due.text(self, 1, "1");
    self.change(0, 1, 1);
    // 1 begs 0 and drinks 1: without, 1 lacks 2, and 0 keeps its drop.
    Due.is("1 is kept", self.kept(0, 1), 2);
    Due.is("1 lends back nothing that 0 needs", self.kept(1, 1), 0);
    keptButItself();

    Due.of("KEPT by one, n (0 to 60). BEYOND.");
    Due.is("n -1", x.kept(7, -1), Due.BEYOND);
    Due.is("n 61", x.kept(7, 61), Due.BEYOND);
    Due.is("person 8", x.kept(8, 1), Due.BEYOND);
    Due.is("person -1", x.kept(-1, 1), Due.BEYOND);
    for (int far : Due.FAR) {
      Due.is("n " + far, x.kept(7, far), Due.BEYOND);
      Due.is("person " + far, x.kept(far, 1), Due.BEYOND);
    }
    Due.is("no PEOPLE", new WellRefuses().kept(0, 0), Due.BEYOND);
    Due.is("alone", Due.people(1, 0, 0).kept(0, 60), 0);
  }

  /** One who lends can be GIVEN more just by having less: did it not LEND, it would thirst itself. */
  private static void keptButItself() {
    WellRefuses x = new WellRefuses();
    x.person(0, 1);
    x.person(0, 0);
    Due.text(x, 0, "t&w=0");
    Due.text(x, 1, "1");
    x.change(0, 1, 3);
    // 0 has 3, lends 1, drinks 2: it has 0, and is GIVEN. Did it not LEND, it would have 1, and not be.
    Due.is("as told, 0 doesn't thirst", x.then(2, 0, 1), 0);
    Due.is("as told, 1 lacks 1 and 1", x.then(2, 1, 1), 2);
    Due.is("1 is kept; 0, which would thirst, is left out", x.kept(0, 2), 2);
    Due.is("behind 1 only 1 thirsts", x.kept(0, 1), 2);
  }

  private static void net() {
    Due.of("NET of one: what all others OWE it, less what it OWES all others (any number).");
    WellRefuses x = Due.people(8, 0, 0);
    for (int p = 1; p < 8; p++) x.owe(p, 0, 99);
    Due.is("the most", x.net(0), 693);
    Due.is("one who OWES 99", x.net(7), -99);
    for (int p = 1; p < 8; p++) x.owe(0, p, 99);
    Due.is("as much as it OWES", x.net(0), 0);
    for (int p = 1; p < 8; p++) x.owe(p, 0, 0);
    Due.is("the least", x.net(0), -693);
    Due.is("alone", Due.people(1, 0, 0).net(0), 0);
    Due.of("NET. BEYOND.");
    Due.is("person 8", x.net(8), Due.BEYOND);
    Due.is("person -1", x.net(-1), Due.BEYOND);
    for (int far : Due.FAR) Due.is("person " + far, x.net(far), Due.BEYOND);
    Due.is("no PEOPLE", new WellRefuses().net(0), Due.BEYOND);
  }

  private static void struck() {
    Due.of("STRIKING, only thought: what 0 how many, 1 what is OWED in all then. BEYOND.");
    WellRefuses none = new WellRefuses();
    Due.is("no PEOPLE: how many", none.struck(0), 0);
    Due.is("no PEOPLE: OWED", none.struck(1), 0);
    WellRefuses x = Due.people(8, 0, 0);
    for (int p = 0; p < 8; p++) {
      for (int q = 0; q < 8; q++) {
        if (p != q) x.owe(p, q, p < q ? 99 : 98);
      }
    }
    Due.of("How many were struck; what is OWED in all then.");
    Due.is("all pairs", x.struck(0), 28);
    Due.is("1 of each is left", x.struck(1), 28);
    Due.is("only thought", x.count(4), 28 * 197);
    for (int p = 0; p < 8; p++) x.change(p, 1, 999);
    Due.is("no DAY goes by", x.struck(1), 28);
    Due.is("what -1", x.struck(-1), Due.BEYOND);
    Due.is("what 2", x.struck(2), Due.BEYOND);
    for (int far : Due.FAR) Due.is("what " + far, x.struck(far), Due.BEYOND);
  }

  private static void odds() {
    Due.of("ODDS: that one is GIVEN (WATER as it is) on a DAY, the rest by 7 being 0 to 6, each just as likely: a fraction in lowest terms (0 is 0 by 1).");
    for (int many = 0; many <= 7; many++) {
      WellRefuses x = Due.people(1, 0, 1);
      Due.text(x, 0, "d<" + many);
      Due.is("above, of " + many, x.odds(0, 0), many == 7 ? 1 : many);
      Due.is("below, of " + many, x.odds(0, 1), many == 0 || many == 7 ? 1 : 7);
    }
    WellRefuses x = Due.people(8, 0, 1);
    x.change(7, 1, 999);
    Due.text(x, 0, "w=999&d=6");
    for (int day = 0; day < 7; day++) {
      Due.is("whatever DAY it is", x.odds(7, 0), 1);
      Due.is("by 7", x.odds(7, 1), 7);
      x.days(1);
      x.change(7, 1, 999);
    }
    Due.of("ODDS: part 0 above, 1 below the line. BEYOND.");
    Due.is("part -1", x.odds(0, -1), Due.BEYOND);
    Due.is("part 2", x.odds(0, 2), Due.BEYOND);
    Due.is("person 8", x.odds(8, 0), Due.BEYOND);
    Due.is("person -1", x.odds(-1, 0), Due.BEYOND);
    for (int far : Due.FAR) {
      Due.is("part " + far, x.odds(0, far), Due.BEYOND);
      Due.is("person " + far, x.odds(far, 0), Due.BEYOND);
    }
    Due.is("no PEOPLE", new WellRefuses().odds(0, 0), Due.BEYOND);
  }

  private static void dry() {
    Due.of("DRY: behind how many DAYS (0 to 60) nobody is GIVEN first.");
    Due.is("no PEOPLE", new WellRefuses().dry(), 0);
    Due.is("nobody now", Due.people(8, 0, 0).dry(), 0);
    WellRefuses x = Due.people(8, 69, 0);
    x.change(7, 0, 1);
    Due.is("the last one always", x.dry(), Due.NONE);
    // Of a TWIN who is given nothing WATER is 2 less on each DAY.
    Due.text(x, 0, "t&w>1");
    int[] waters = {0, 1, 2, 3, 118, 119, 120, 121};
    int[] due = {0, 0, 1, 1, 59, 59, 60, 60};
    for (int i = 0; i < waters.length; i++) {
      x.change(7, 1, waters[i]);
      Due.text(x, 1, "0");
      Due.is("WATER " + waters[i], x.dry(), due[i]);
    }
    Due.of("DRY. NONE: not by 60.");
    x.change(7, 1, 122);
    Due.is("on the 61st", x.dry(), Due.NONE);
    x.change(7, 1, 999);
    Due.is("far behind", x.dry(), Due.NONE);
    Due.is("WATER stays", x.ofPerson(7, 3), 999);
    Due.is("DAY stays", x.count(1), 0);
  }
}
