/** Each sentence of the document on PEOPLE, debts and A DAY that names a boundary: terms 1, promises 1 to 8. */
public final class PeopleEdgesTest {
  public static void main(String[] args) {
    newObject();
    calls();
    ranges();
    person();
    ofPerson();
    fills();
    drinks();
    change();
    owe();
    become();
    as();
    given();
    goes();
    begs();
    whoLends();
    lends();
    drinking();
    Due.done();
  }

  private static void newObject() {
    Due.of("All as at first; no PEOPLE.");
    WellRefuses x = new WellRefuses();
    Due.is("PEOPLE", x.count(0), 0);
    Due.is("nobody 0", x.ofPerson(0, 0), Due.BEYOND);
    Due.is("no TEXT: t%2", x.law(0, 1, 0, 0), 1);
    Due.is("no TEXT: w>3", x.law(1, 3, 0, 0), 0);
    Due.is("an empty TAPE", x.count(6), 0);
    Due.is("no number waits", x.count(7), 0);
    Due.is("an empty TRACE", x.trace(0), Due.NONE);
    Due.is("no IMAGE", x.restore(), Due.NONE);
    Due.is("DAY", x.count(1), 0);
    Due.is("z", x.count(9), 1);
    for (int sheet = 0; sheet < 4; sheet++) Due.is("SHEET " + sheet, x.judge(sheet), Due.NONE);
    WellRefuses first = new WellRefuses();
    first.person(0, 1);
    first.image();
    first.seed(7);
    WellRefuses second = new WellRefuses();
    Due.is("another's PEOPLE", second.count(0), 0);
    Due.is("another's z", second.count(9), 1);
    Due.is("another's IMAGE", second.restore(), Due.NONE);
  }

  private static void calls() {
    Due.of("An object is used for at most 512 calls after it has been made");
    WellRefuses x = new WellRefuses();
    for (int p = 0; p < 8; p++) x.person(60 + p, p);
    for (int call = 8; call < 511; call++) {
      switch (call % 4) {
        case 0: x.days(5); break;
        case 1: x.kept(call % 8, 60); break;
        case 2: x.image(); break;
        default: x.first(99, 1); break;
      }
    }
    Due.is("the 512th: DAY", x.count(1), 5 * 126);
  }

  private static void ranges() {
    Due.of("(at most 8)");
    WellRefuses x = new WellRefuses();
    for (int p = 0; p < 8; p++) Due.is("the number", x.person(0, 0), p);
    Due.is("a ninth", x.person(0, 0), Due.FULL);
    Due.is("eight stay", x.count(0), 8);

    Due.of("WATER (0 to 999; 0 at first), THIRST (0 to 99; 0 at first); each OWES each other one some (0 to 99; 0 at first).");
    for (int p = 0; p < 8; p++) {
      Due.is("WATER at first", x.ofPerson(p, 3), 0);
      Due.is("THIRST at first", x.ofPerson(p, 4), 0);
      for (int q = 0; q < 8; q++) {
        if (p != q) Due.is("OWES at first", x.owes(p, q), 0);
      }
    }
    Due.of("DAY (0 to 9999; 0 at first)");
    Due.is("DAY at first", x.count(1), 0);
    WellRefuses last = Due.atDay(9998);
    Due.is("DAY 9998", last.count(1), 9998);
    Due.is("one more", last.days(1), 0);
    Due.is("DAY 9999", last.count(1), 9999);
    Due.is("no more", last.days(1), Due.STATE);
    Due.is("DAY stays", last.count(1), 9999);
  }

  private static void person() {
    Due.of("with a number m (0 to 9), TRAITS (0 to 15: four bits)");
    int[][] taken = {{0, 0}, {0, 15}, {69, 0}, {69, 15}, {9, 8}, {10, 7}, {60, 1}};
    for (int[] one : taken) {
      WellRefuses x = new WellRefuses();
      Due.is("person " + one[0] + " " + one[1], x.person(one[0], one[1]), 0);
      Due.is("KIND", x.ofPerson(0, 0), one[0] / 10);
      Due.is("m", x.ofPerson(0, 1), one[0] % 10);
      Due.is("TRAITS", x.ofPerson(0, 2), one[1]);
    }
    Due.of("One of PEOPLE (km: 10 times the KIND, and m) with TRAITS: the number. BEYOND. FULL.");
    WellRefuses x = new WellRefuses();
    Due.is("km -1", x.person(-1, 0), Due.BEYOND);
    Due.is("km -9", x.person(-9, 0), Due.BEYOND);
    Due.is("km -10", x.person(-10, 0), Due.BEYOND);
    Due.is("km 70", x.person(70, 0), Due.BEYOND);
    Due.is("TRAITS -1", x.person(0, -1), Due.BEYOND);
    Due.is("TRAITS 16", x.person(0, 16), Due.BEYOND);
    for (int far : Due.FAR) {
      Due.is("km " + far, x.person(far, 0), Due.BEYOND);
      Due.is("TRAITS " + far, x.person(0, far), Due.BEYOND);
    }
    Due.is("nobody came", x.count(0), 0);
    for (int p = 0; p < 8; p++) x.person(0, 0);
    Due.is("full, km 70", x.person(70, 0), Due.BEYOND);
    Due.is("full, TRAITS 16", x.person(0, 16), Due.BEYOND);
    Due.is("full", x.person(69, 15), Due.FULL);
  }

  private static void ofPerson() {
    Due.of("Of one: 0 KIND, 1 m, 2 TRAITS, 3 WATER, 4 THIRST, 5 FILLS, 6 DRINKS, 7 whether GIVEN now. BEYOND.");
    WellRefuses x = new WellRefuses();
    Due.is("no PEOPLE", x.ofPerson(0, 0), Due.BEYOND);
    for (int p = 0; p < 8; p++) {
      Due.is("not yet", x.ofPerson(p, 7), Due.BEYOND);
      x.person(10 * (p % 7) + p, 15 - p);
      int[] due = {p % 7, p, 15 - p, 0, 0};
      for (int what = 0; what < 5; what++) Due.is("of " + p + " " + what, x.ofPerson(p, what), due[what]);
      Due.is("GIVEN", x.ofPerson(p, 7), (15 - p) % 2);
    }
    Due.is("person 8", x.ofPerson(8, 0), Due.BEYOND);
    Due.is("person -1", x.ofPerson(-1, 0), Due.BEYOND);
    Due.is("what -1", x.ofPerson(0, -1), Due.BEYOND);
    Due.is("what 8", x.ofPerson(0, 8), Due.BEYOND);
    for (int far : Due.FAR) {
      Due.is("person " + far, x.ofPerson(far, 0), Due.BEYOND);
      Due.is("what " + far, x.ofPerson(0, far), Due.BEYOND);
    }
  }

  private static void fills() {
    Due.of("FILLS: ONE: 3. SAINT: that, and the rest of m by 3. FARMER: twice a ONE's. STRANGER: 9. BRIDE: as SAINT, and 5. BOY: half (cut) of a FARMER's. TWIN: as STRANGER, less m.");
    WellRefuses x = Due.people(1, 0, 0);
    for (int m = 0; m < 10; m++) {
      int[] due = {3, 3 + m % 3, 6, 9, 8 + m % 3, 3, 9 - m};
      for (int kind = 0; kind < 7; kind++) {
        x.become(0, 10 * kind + m);
        Due.is("FILLS of KIND " + kind + ", m " + m, x.ofPerson(0, 5), due[kind]);
      }
    }
    Due.is("a TWIN with m 9", x.ofPerson(0, 5), 0);
  }

  private static void drinks() {
    Due.of("DRINKS: ONE: 2. SAINT: 1. FARMER: a ONE's, and 1. BOY: a FARMER's less 1. (Others as the KIND above.)");
    int[] due = {2, 1, 3, 2, 1, 2, 2};
    WellRefuses x = Due.people(1, 0, 0);
    for (int kind = 0; kind < 7; kind++) {
      for (int m = 0; m < 10; m += 9) {
        x.become(0, 10 * kind + m);
        Due.is("DRINKS of KIND " + kind + ", m " + m, x.ofPerson(0, 6), due[kind]);
      }
    }
  }

  private static void change() {
    Due.of("TRAITS (what 0), WATER (1), THIRST (2) of one becomes v: what it was. BEYOND.");
    int[] most = {15, 999, 99};
    for (int what = 0; what < 3; what++) {
      WellRefuses x = Due.people(8, 0, 0);
      Due.is("no person 8", x.change(8, what, 0), Due.BEYOND);
      Due.is("no person -1", x.change(-1, what, 0), Due.BEYOND);
      Due.is("the most", x.change(7, what, most[what]), 0);
      Due.is("one less", x.change(7, what, most[what] - 1), most[what]);
      Due.is("the least", x.change(7, what, 0), most[what] - 1);
      Due.is("one more", x.change(7, what, 1), 0);
      Due.is("above the most", x.change(7, what, most[what] + 1), Due.BEYOND);
      Due.is("below the least", x.change(7, what, -1), Due.BEYOND);
      for (int far : Due.FAR) Due.is("v " + far, x.change(7, what, far), Due.BEYOND);
      Due.is("1 stands", x.ofPerson(7, 2 + what), 1);
      for (int other = 0; other < 3; other++) {
        if (other != what) Due.is("another stays", x.ofPerson(7, 2 + other), 0);
      }
      Due.is("another one's stays", x.ofPerson(6, 2 + what), 0);
    }
    WellRefuses x = new WellRefuses();
    Due.is("no PEOPLE", x.change(0, 0, 0), Due.BEYOND);
    x.person(0, 0);
    Due.is("what -1", x.change(0, -1, 0), Due.BEYOND);
    Due.is("what 3", x.change(0, 3, 0), Due.BEYOND);
  }

  private static void owe() {
    Due.of("What one OWES another one becomes v: what it was. BEYOND: also one and the same.");
    WellRefuses x = Due.people(8, 0, 0);
    Due.is("the most", x.owe(0, 7, 99), 0);
    Due.is("one less", x.owe(0, 7, 98), 99);
    Due.is("the least", x.owe(0, 7, 0), 98);
    Due.is("one more", x.owe(0, 7, 1), 0);
    Due.is("the other way", x.owe(7, 0, 99), 0);
    Due.is("100", x.owe(0, 7, 100), Due.BEYOND);
    Due.is("-1", x.owe(0, 7, -1), Due.BEYOND);
    for (int far : Due.FAR) Due.is("v " + far, x.owe(0, 7, far), Due.BEYOND);
    for (int p = 0; p < 8; p++) {
      Due.is("owe: one and the same", x.owe(p, p, 0), Due.BEYOND);
      Due.is("owes: one and the same", x.owes(p, p), Due.BEYOND);
    }
    Due.is("owe 8", x.owe(8, 0, 0), Due.BEYOND);
    Due.is("owe to 8", x.owe(0, 8, 0), Due.BEYOND);
    Due.is("owe -1", x.owe(-1, 0, 0), Due.BEYOND);
    Due.is("owe to -1", x.owe(0, -1, 0), Due.BEYOND);
    Due.is("it stands", x.owes(0, 7), 1);
    Due.is("so does the other", x.owes(7, 0), 99);
    Due.is("in all", x.count(4), 100);

    Due.of("What one OWES another one. BEYOND: also one and the same.");
    Due.is("owes 8", x.owes(8, 0), Due.BEYOND);
    Due.is("owes to 8", x.owes(0, 8), Due.BEYOND);
    Due.is("owes -1", x.owes(-1, 0), Due.BEYOND);
    Due.is("owes to -1", x.owes(0, -1), Due.BEYOND);
    for (int far : Due.FAR) {
      Due.is("owes " + far, x.owes(far, 0), Due.BEYOND);
      Due.is("owes to " + far, x.owes(0, far), Due.BEYOND);
      Due.is("both " + far, x.owes(far, far), Due.BEYOND);
    }
    WellRefuses alone = Due.people(1, 0, 0);
    Due.is("no other yet", alone.owes(0, 1), Due.BEYOND);
    Due.is("nobody at all", new WellRefuses().owes(0, 1), Due.BEYOND);
    Due.is("nobody at all owes", new WellRefuses().owe(0, 1, 0), Due.BEYOND);
  }

  private static void become() {
    Due.of("One becomes one of a KIND, with m (km): the KIND that it was. BEYOND.");
    WellRefuses x = Due.people(2, 35, 0);
    Due.is("km 69", x.become(1, 69), 3);
    Due.is("km 0", x.become(1, 0), 6);
    Due.is("KIND", x.ofPerson(1, 0), 0);
    Due.is("m", x.ofPerson(1, 1), 0);
    Due.is("km 9", x.become(1, 9), 0);
    Due.is("m 9", x.ofPerson(1, 1), 9);
    Due.is("km -1", x.become(1, -1), Due.BEYOND);
    Due.is("km 70", x.become(1, 70), Due.BEYOND);
    for (int far : Due.FAR) Due.is("km " + far, x.become(1, far), Due.BEYOND);
    Due.is("person 2", x.become(2, 0), Due.BEYOND);
    Due.is("person -1", x.become(-1, 0), Due.BEYOND);
    Due.is("it stays a ONE", x.become(1, 10), 0);
    Due.is("the other stays", x.become(0, 10), 3);
    Due.is("no PEOPLE", new WellRefuses().become(0, 0), Due.BEYOND);
  }

  private static void as() {
    Due.of("One as one of a KIND: m. BEYOND. KIND: it isn't of that KIND, nor of one under it.");
    WellRefuses x = Due.people(1, 47, 0);
    Due.is("a BRIDE as ONE", x.as(0, 0), 7);
    Due.is("as SAINT", x.as(0, 1), 7);
    Due.is("as BRIDE", x.as(0, 4), 7);
    int[] others = {2, 3, 5, 6};
    for (int other : others) Due.is("as " + other, x.as(0, other), Due.KIND);
    x.become(0, 10);
    Due.is("a SAINT isn't a BRIDE", x.as(0, 4), Due.KIND);
    Due.is("m 0", x.as(0, 1), 0);
    Due.is("kind -1", x.as(0, -1), Due.BEYOND);
    Due.is("kind 7", x.as(0, 7), Due.BEYOND);
    Due.is("person 1", x.as(1, 0), Due.BEYOND);
    Due.is("person -1", x.as(-1, 0), Due.BEYOND);
    for (int far : Due.FAR) {
      Due.is("kind " + far, x.as(0, far), Due.BEYOND);
      Due.is("person " + far, x.as(far, 6), Due.BEYOND);
    }
    Due.is("no PEOPLE", new WellRefuses().as(0, 0), Due.BEYOND);
  }

  private static void given() {
    Due.of("GIVEN: whether the TEXT gives other than 0 for TRAITS, the rest of DAY by 7, WATER of one.");
    WellRefuses x = Due.people(1, 0, 0);
    Due.text(x, 1, "0");
    Due.text(x, 0, "d=6");
    for (int day = 0; day < 15; day++) {
      Due.is("DAY " + day, x.ofPerson(0, 7), day % 7 == 6 ? 1 : 0);
      x.days(1);
    }
    WellRefuses last = Due.atDay(9999);
    last.person(0, 15);
    last.change(0, 1, 999);
    Due.text(last, 0, "d=3&t=15&w=999"); // 9999 is 7 times 1428, and 3
    Due.is("the last DAY, the most TRAITS, the most WATER", last.ofPerson(0, 7), 1);
    last.change(0, 1, 998);
    Due.is("less WATER", last.ofPerson(0, 7), 0);
    WellRefuses y = Due.people(2, 0, 0);
    y.change(1, 0, 1);
    Due.is("without a TEXT: even", y.ofPerson(0, 7), 0);
    Due.is("without a TEXT: odd", y.ofPerson(1, 7), 1);
    Due.text(y, 0, "0-1");
    Due.is("-1 is held: not GIVEN", y.ofPerson(1, 7), 0);
    Due.text(y, 0, "9999");
    Due.is("9999 is held: GIVEN", y.ofPerson(0, 7), 1);
  }

  /** WATER behind a DAY of a STRANGER (fills 9, drinks 2) who is GIVEN. */
  private static int filled(int water) {
    WellRefuses x = Due.people(1, 30, 1);
    x.change(0, 1, water);
    return x.days(1);
  }

  private static void goes() {
    Due.of("is one GIVEN: WATER is FILLS more (held)");
    Due.is("from 0", filled(0), 7);
    Due.is("from 989 to 998", filled(989), 996);
    Due.is("from 990 to 999", filled(990), 997);
    Due.is("from 991, held", filled(991), 997);
    Due.is("from 998, held", filled(998), 997);
    Due.is("from 999, held", filled(999), 997);
    WellRefuses twin = Due.people(1, 69, 1);
    Due.is("a TWIN is given nothing", twin.days(1), 0);
    Due.is("and thirsts", twin.ofPerson(0, 4), 2);
    WellRefuses x = Due.people(2, 30, 1);
    x.change(1, 1, 500);
    Due.text(x, 1, "1");
    Due.is("who is GIVEN doesn't beg", x.days(1), 7 + 507);
    Due.is("nor OWES", x.count(4), 0);
    WellRefuses y = Due.people(2, 69, 1);
    y.change(1, 1, 500);
    Due.text(y, 1, "1");
    y.days(1);
    Due.is("not even a TWIN who is given nothing", y.count(4), 0);

    Due.of("each, by numbers, goes");
    WellRefuses z = new WellRefuses();
    z.person(0, 0);
    z.person(30, 1);
    z.person(0, 0);
    z.days(1);
    Due.is("0 goes ahead of 1, who has nothing yet", z.owes(0, 1), 0);
    Due.is("2 goes behind 1", z.owes(2, 1), 1);
  }

  private static void begs() {
    Due.of("else one BEGS: of all others who have WATER, and LEND, that one who has most, of several the least");
    WellRefuses alone = Due.people(1, 0, 0);
    alone.change(0, 1, 900);
    Due.text(alone, 1, "1");
    Due.is("none but oneself", alone.days(1), 898);
    Due.is("to oneself one OWES nothing", alone.count(4), 0);
    WellRefuses rich = begging(4, 0, 0, 0);
    rich.change(0, 1, 900);
    Due.is("who has most and BEGS", rich.days(1), 1 + 899);
    Due.is("BEGS another one", rich.owes(0, 1), 1);
    WellRefuses dry = Due.people(8, 0, 0);
    Due.text(dry, 1, "1");
    Due.is("nobody has WATER", dry.days(1), 0);
    Due.is("nobody OWES", dry.count(4), 0);
    WellRefuses none = Due.people(8, 0, 0);
    for (int p = 0; p < 8; p++) none.change(p, 1, 999);
    Due.text(none, 1, "0");
    Due.is("nobody LENDS", none.days(1), 8 * 997);
    Due.is("nobody OWES then", none.count(4), 0);
    WellRefuses drop = Due.people(2, 0, 0);
    Due.text(drop, 1, "1");
    drop.change(1, 1, 1);
    drop.become(1, 69);
    drop.change(1, 0, 1);
    Due.is("the last drop", drop.days(1), 0);
    Due.is("is lent", drop.owes(0, 1), 1);
    Due.is("who BEGS has it", drop.ofPerson(0, 4), 1);
    Due.is("who lends hasn't", drop.ofPerson(1, 4), 2);

    WellRefuses least = begging(5, 8, 8, 8);
    least.days(1);
    Due.is("of several the least", least.owes(0, 2), 1);
    WellRefuses most = begging(5, 8, 9, 8);
    most.days(1);
    Due.is("the most", most.owes(0, 3), 1);
    WellRefuses first = begging(9, 8, 9, 8);
    first.days(1);
    Due.is("the first of the most", first.owes(0, 1), 1);
    WellRefuses last = begging(0, 0, 0, 1);
    last.days(1);
    Due.is("the only one who has any", last.owes(0, 4), 1);
    int[][] between = {{8, 8, 0}, {9, 8, 0}, {8, 9, 2}, {1, 0, 0}, {0, 1, 2}};
    for (int[] one : between) {
      WellRefuses x = Due.people(3, 69, 1);
      x.change(1, 0, 0);
      x.change(0, 1, one[0]);
      x.change(2, 1, one[1]);
      Due.text(x, 1, "1");
      x.days(1);
      Due.is("1 OWES one", x.count(4), 1);
      Due.is("of 0 and 2, who have " + one[0] + ", " + one[1], x.owes(1, one[2]), 1);
    }

    Due.of("WATER of that one is 1 less, of who BEGS 1 more, who BEGS OWES that one 1 more (held).");
    WellRefuses x = begging(0, 999, 0, 0);
    x.owe(0, 2, 98);
    x.days(1);
    Due.is("OWES 99", x.owes(0, 2), 99);
    x.days(1);
    Due.is("held at 99", x.owes(0, 2), 99);
    Due.is("still lent: WATER of who lends", x.ofPerson(2, 3), 993);
    WellRefuses y = begging(999, 0, 0, 0);
    y.change(0, 1, 998);
    y.days(1);
    Due.is("WATER 999, less 2", y.ofPerson(0, 3), 997);
    y.change(0, 1, 999);
    y.days(1);
    Due.is("held at 999, less 2", y.ofPerson(0, 3), 997);
  }

  /** 0 begs; 1 to 4 have so much WATER, are given nothing (TWINS with m 9, GIVEN), LEND always. */
  private static WellRefuses begging(int... water) {
    WellRefuses x = Due.people(1, 0, 0);
    for (int i = 0; i < water.length; i++) {
      x.person(69, 1);
      x.change(1 + i, 1, water[i]);
    }
    Due.text(x, 1, "1");
    return x;
  }

  private static void whoLends() {
    Due.of("LENDS: whether the other TEXT gives other than 0 for WATER of who lends, for what who BEGS OWES that one, m of who lends.");
    WellRefuses y = Due.people(2, 0, 0);
    y.become(1, 69);
    y.change(1, 0, 1);
    y.change(1, 1, 3);
    y.days(1);
    Due.is("without a TEXT WATER 3 isn't lent", y.owes(0, 1), 0);
    y.change(1, 1, 4);
    y.days(1);
    Due.is("WATER 4 is", y.owes(0, 1), 1);
    Due.text(y, 1, "m=9&o=99&w=999");
    y.change(1, 1, 999);
    y.owe(0, 1, 98);
    y.days(1);
    Due.is("OWED 98", y.owes(0, 1), 98);
    y.change(1, 1, 999);
    y.owe(0, 1, 99);
    y.owe(1, 0, 5);
    y.days(1);
    Due.is("OWED 99, WATER 999, m 9: lent", y.ofPerson(1, 3), 996);
    Due.text(y, 1, "0-5");
    y.owe(0, 1, 0);
    y.days(1);
    Due.is("below 0 is 0: not lent", y.owes(0, 1), 0);
    Due.text(y, 1, "7");
    y.days(1);
    Due.is("7 is 1: lent", y.owes(0, 1), 1);
  }

  private static void lends() {
    Due.of("of all others who have WATER, and LEND");
    WellRefuses x = begging(50, 40, 30, 20);
    Due.text(x, 1, "w<40");
    x.days(1);
    Due.is("those with more don't LEND", x.owes(0, 3), 1);
    Due.text(x, 1, "w<1");
    x.days(1);
    Due.is("LENDS, but nobody LENDS who has any", x.count(4), 1);
    Due.text(x, 1, "w=0");
    x.change(4, 1, 0);
    x.days(1);
    Due.is("one who LENDS has no WATER", x.count(4), 1);
  }

  /** WATER and THIRST (100 times WATER, and THIRST) behind a DAY of a FARMER, who drinks 3, isn't GIVEN. */
  private static int drunk(int water, int thirst) {
    WellRefuses x = Due.people(1, 20, 0);
    x.change(0, 1, water);
    x.change(0, 2, thirst);
    x.days(1);
    return 100 * x.ofPerson(0, 3) + x.ofPerson(0, 4);
  }

  private static void drinking() {
    Due.of("each, by numbers, drinks: WATER is DRINKS less; is there less than that, WATER is 0, THIRST is by what lacks more (held), else THIRST is 0.");
    Due.is("just enough", drunk(3, 99), 0);
    Due.is("one more", drunk(4, 99), 100);
    Due.is("the most", drunk(999, 99), 99600);
    Due.is("one lacks", drunk(2, 0), 1);
    Due.is("two lack", drunk(1, 0), 2);
    Due.is("all lacks", drunk(0, 0), 3);
    Due.is("to 98", drunk(0, 95), 98);
    Due.is("to 99", drunk(0, 96), 99);
    Due.is("held from 97", drunk(0, 97), 99);
    Due.is("held from 99", drunk(0, 99), 99);
    Due.is("held by one", drunk(2, 99), 99);

    Due.of("DAY is 1 more.");
    WellRefuses x = new WellRefuses();
    x.days(1);
    Due.is("without PEOPLE, too", x.count(1), 1);
    x.days(2);
    Due.is("each", x.count(1), 3);
  }
}
