/** Promises 12 to 14: DAYS, DAYS by draws, STRIKING. */
public final class DaysTest {
  public static void main(String[] args) {
    given();
    begs();
    heldOnes();
    order();
    ends();
    loose();
    drawsByHand();
    strike();
    Due.done();
  }

  private static void given() {
    WellRefuses x = new WellRefuses();
    Due.is("nobody", x.days(60), 0);
    x.person(20, 1); // FARMER: fills 6, drinks 3
    x.person(10, 0); // SAINT: drinks 1, not given
    Due.text(x, 1, "0");
    Due.is("a day", x.days(1), 3);
    Due.is("its WATER", x.ofPerson(0, 3), 3);
    Due.is("the other's THIRST", x.ofPerson(1, 4), 1);
    Due.is("nobody lends", x.count(4), 0);
    Due.is("DAY is 1 more", x.count(1), 61);
    Due.is("two days", x.days(2), 9);
    Due.is("DAY is 63", x.count(1), 63);
  }

  private static void begs() {
    WellRefuses x = new WellRefuses();
    for (int p = 0; p < 4; p++) x.person(0, 0);
    x.change(1, 1, 10);
    x.change(2, 1, 11);
    x.change(3, 1, 11);
    x.change(0, 2, 7);
    // 0 begs 2 (11, the least number), 1 begs 3 (11; 2 has 10), 2 begs 1 (11), 3 begs 2 (11).
    Due.is("WATER behind", x.days(1), 25);
    Due.is("0 OWES 2", x.owes(0, 2), 1);
    Due.is("1 OWES 3", x.owes(1, 3), 1);
    Due.is("2 OWES 1", x.owes(2, 1), 1);
    Due.is("3 OWES 2", x.owes(3, 2), 1);
    Due.is("in all", x.count(4), 4);
    Due.is("0 drank 1", x.ofPerson(0, 3), 0);
    Due.is("0 lacks 1", x.ofPerson(0, 4), 8);
    Due.is("1 drank", x.ofPerson(1, 3), 8);
    Due.is("2 drank", x.ofPerson(2, 3), 8);
    Due.is("3 drank", x.ofPerson(3, 3), 9);

    WellRefuses y = new WellRefuses();
    y.person(0, 0);
    y.person(5, 0);
    y.person(6, 0);
    y.change(1, 1, 9);
    y.change(2, 1, 8);
    y.owe(0, 1, 3);
    Due.text(y, 1, "o<3|m=6&w=7");
    // 1 has most, but 0 OWES it 3; 2 has 8 first: o is 0.
    y.days(1);
    Due.is("0 OWES 2", y.owes(0, 2), 1);
    Due.is("0 OWES 1 as ahead", y.owes(0, 1), 3);
    Due.is("1 OWES 2", y.owes(1, 2), 1);
    Due.is("2 OWES 1", y.owes(2, 1), 1);

    WellRefuses most = new WellRefuses();
    for (int p = 0; p < 3; p++) most.person(0, 0);
    most.change(0, 1, 50);
    most.change(2, 1, 20);
    most.days(1);
    Due.is("0 has most", most.owes(1, 0), 1);
    Due.is("2 hasn't", most.owes(1, 2), 0);

    WellRefuses z = new WellRefuses();
    z.person(0, 0);
    z.person(0, 0);
    Due.text(z, 1, "1");
    z.days(1);
    Due.is("nobody has WATER", z.count(4), 0);
    z.change(1, 1, 1);
    Due.is("the last drop", z.days(1), 0);
    Due.is("goes to 0", z.owes(0, 1), 1);
    Due.is("and back", z.owes(1, 0), 1);
    Due.is("0 has none: THIRST 2 and 2", z.ofPerson(0, 4), 4);
    Due.is("1 had 1: THIRST 2 and 1", z.ofPerson(1, 4), 3);
  }

  private static void heldOnes() {
    WellRefuses x = new WellRefuses();
    x.person(30, 1);
    x.person(30, 0);
    x.change(0, 1, 995);
    x.change(1, 1, 999);
    x.change(0, 2, 50);
    // 0 is held at 999; 1 begs it, is held at 999; both drink 2.
    Due.is("held WATER", x.days(1), 996 + 997);
    Due.is("0", x.ofPerson(0, 3), 996);
    Due.is("1", x.ofPerson(1, 3), 997);
    Due.is("1 OWES 0", x.owes(1, 0), 1);
    Due.is("THIRST is gone", x.ofPerson(0, 4), 0);
    x.owe(1, 0, 99);
    x.days(1);
    Due.is("held debt", x.owes(1, 0), 99);
    WellRefuses y = new WellRefuses();
    y.person(20, 0);
    y.change(0, 2, 98);
    y.days(1);
    Due.is("held THIRST", y.ofPerson(0, 4), 99);
    y.change(0, 2, 0);
    y.days(1);
    Due.is("THIRST by what lacks", y.ofPerson(0, 4), 3);
    y.change(0, 1, 3);
    y.days(1);
    Due.is("just enough", y.ofPerson(0, 4), 0);
    y.change(0, 1, 2);
    y.days(1);
    Due.is("one lacks", y.ofPerson(0, 4), 1);
    Due.is("WATER 0", y.ofPerson(0, 3), 0);
  }

  private static void order() {
    WellRefuses x = new WellRefuses();
    x.person(0, 0);
    x.person(30, 1);
    Due.is("0 goes ahead of 1", x.days(1), 7);
    Due.is("so 0 OWES nothing", x.count(4), 0);
    Due.is("on the next day it does", x.days(1), 13);
    Due.is("0 OWES 1", x.owes(0, 1), 1);
    WellRefuses y = new WellRefuses();
    y.person(30, 1);
    y.person(0, 0);
    Due.is("1 goes behind 0", y.days(1), 6);
    Due.is("so 1 OWES at once", y.owes(1, 0), 1);
    WellRefuses z = new WellRefuses();
    z.person(0, 0);
    Due.text(z, 0, "d=2");
    int[] due = {0, 0, 1, 0, 0, 0, 0, 0, 0, 1};
    for (int day = 0; day < 10; day++) Due.is("DAY " + day, z.days(1), due[day]);
    Due.is("DAY is 10", z.count(1), 10);
  }

  private static void ends() {
    WellRefuses x = new WellRefuses();
    Due.is("0", x.days(0), Due.BEYOND);
    Due.is("61", x.days(61), Due.BEYOND);
    Due.is("-1", x.days(-1), Due.BEYOND);
    Due.is("loose 0", x.loose(0), Due.BEYOND);
    Due.is("loose 41", x.loose(41), Due.BEYOND);
    for (int i = 0; i < 166; i++) x.days(60);
    Due.is("DAY", x.count(1), 9960);
    Due.is("STATE", x.days(40), Due.STATE);
    Due.is("loose STATE", x.loose(40), Due.STATE);
    Due.is("BEYOND is asked first", x.days(61), Due.BEYOND);
    Due.is("loose: BEYOND is asked first", x.loose(41), Due.BEYOND);
    Due.is("no draw", x.count(9), 1);
    Due.is("up to 9999", x.days(38), 0);
    Due.is("loose up to 9999", x.loose(1), 0);
    Due.is("DAY is 9999", x.count(1), 9999);
    Due.is("no more", x.days(1), Due.STATE);
    WellRefuses y = new WellRefuses();
    for (int i = 0; i < 166; i++) y.days(60);
    Due.is("days up to 9999", y.days(39), 0);
    Due.is("DAY is 9999, too", y.count(1), 9999);
    Due.is("no loose more", x.loose(1), Due.STATE);
    Due.is("the greatest int", x.days(Integer.MAX_VALUE), Due.BEYOND);
    x.person(0, 1);
    Due.is("thought goes on", x.then(60, 0, 0), 60);
  }

  private static void loose() {
    WellRefuses x = new WellRefuses();
    Due.is("nobody: no draws", x.loose(40), 0);
    Due.is("z as at first", x.count(9), 1);
    Due.is("DAY", x.count(1), 40);
    for (int p = 0; p < 8; p++) x.person(10 * (p % 7) + p, p);
    Due.is("loose", x.loose(3), looseByHand(3));
    Due.is("z", x.count(9), byHand);
    for (int p = 0; p < 8; p++) Due.is("TRAITS of " + p, x.ofPerson(p, 2), turned[p]);
  }

  private static int byHand = 1;
  private static final int[] turned = {0, 1, 2, 3, 4, 5, 6, 7};

  /** The same days one by one on another object, TRAITS being turned from outside. */
  private static int looseByHand(int n) {
    WellRefuses y = new WellRefuses();
    y.days(40);
    for (int p = 0; p < 8; p++) y.person(10 * (p % 7) + p, p);
    for (int i = 0; i < n; i++) {
      for (int p = 0; p < 8; p++) {
        byHand = byHand * 1103515245 + 12345;
        int drawn = byHand >>> 8;
        if (drawn % 8 == 0) turned[p] ^= 1 << (drawn / 8) % 4;
        y.change(p, 0, turned[p]);
      }
      y.days(1);
    }
    return y.count(2);
  }

  private static void drawsByHand() {
    int inverse = 1;
    while (inverse * 1103515245 != 1) inverse = inverse * (2 - 1103515245 * inverse);
    for (int drawn = 0; drawn < 64; drawn++) {
      WellRefuses x = new WellRefuses();
      x.person(0, 5);
      int after = drawn << 8 | 0xF0000000;
      x.seed((after - 12345) * inverse);
      x.loose(1);
      Due.is("z", x.count(9), after);
      Due.is("TRAITS by the draw " + drawn, x.ofPerson(0, 2), drawn % 8 == 0 ? 5 ^ 1 << drawn / 8 % 4 : 5);
    }
  }

  private static void strike() {
    WellRefuses x = new WellRefuses();
    Due.is("nobody", x.strike(), 0);
    for (int p = 0; p < 5; p++) x.person(0, 0);
    x.owe(0, 1, 5);
    x.owe(1, 2, 3);
    Due.is("no ring", x.strike(), 0);
    x.owe(2, 0, 4);
    Due.is("three", x.strike(), 1);
    Due.is("less by 3", x.owes(0, 1), 2);
    Due.is("nothing left", x.owes(1, 2), 0);
    Due.is("one left", x.owes(2, 0), 1);
    x.owe(1, 0, 99);
    x.owe(1, 2, 7);
    Due.is("two ahead of three", x.strike(), 1);
    Due.is("0 OWES 1 nothing", x.owes(0, 1), 0);
    Due.is("1 OWES 0", x.owes(1, 0), 97);
    Due.is("the three is broken", x.owes(1, 2), 7);

    WellRefuses y = new WellRefuses();
    for (int p = 0; p < 4; p++) y.person(0, 0);
    // (0, 2, 1) and (0, 2, 3) share what 0 OWES 2: the first takes its part ahead of the other.
    y.owe(0, 2, 4);
    y.owe(2, 1, 2);
    y.owe(1, 0, 9);
    y.owe(2, 3, 9);
    y.owe(3, 0, 9);
    Due.is("(0, 2, 1), then (0, 2, 3)", y.strike(), 2);
    Due.is("2 OWES 1", y.owes(2, 1), 0);
    Due.is("1 OWES 0", y.owes(1, 0), 7);
    Due.is("2 OWES 3", y.owes(2, 3), 7);
    Due.is("3 OWES 0", y.owes(3, 0), 7);
    Due.is("0 OWES 2", y.owes(0, 2), 0);
    y.owe(1, 3, 1);
    y.owe(3, 1, 2);
    y.owe(0, 2, 1);
    Due.is("two by 1, three by 1", y.strike(), 2);
    Due.is("3 OWES 1", y.owes(3, 1), 1);
    Due.is("3 OWES 0", y.owes(3, 0), 6);
    Due.is("a ring of four", ringOfFour(), 0);
  }

  private static int ringOfFour() {
    WellRefuses x = new WellRefuses();
    for (int p = 0; p < 4; p++) x.person(0, 0);
    for (int p = 0; p < 4; p++) x.owe(p, (p + 1) % 4, 5);
    return x.strike();
  }
}
