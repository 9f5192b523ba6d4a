/** Promises 1 to 8: a new object, PEOPLE of KINDS, debts. */
public final class PeopleTest {
  public static void main(String[] args) {
    newObject();
    person();
    ofPerson();
    change();
    owe();
    become();
    as();
    Due.done();
  }

  private static void newObject() {
    WellRefuses x = new WellRefuses();
    for (int what = 0; what < 9; what++) Due.is("new: count " + what, x.count(what), 0);
    Due.is("new: z", x.count(9), 1);
    Due.is("new: nobody", x.ofPerson(0, 0), Due.BEYOND);
    for (int sheet = 0; sheet < 4; sheet++) Due.is("new: sheet " + sheet, x.judge(sheet), Due.NONE);
    Due.is("new: no image", x.restore(), Due.NONE);
    Due.is("new: no trace", x.trace(0), Due.NONE);
    Due.is("new: gives by t%2", x.law(0, 3, 0, 0), 1);
    Due.is("new: lends by w>3", x.law(1, 3, 0, 0), 0);
    Due.is("new: told 2", x.told(2), 6);
    Due.is("new: told 3", x.told(3), 0);
    Due.is("another new one: told 2", new WellRefuses().told(2), 0);
  }

  private static void person() {
    WellRefuses x = new WellRefuses();
    Due.is("km -1", x.person(-1, 0), Due.BEYOND);
    Due.is("km 70", x.person(70, 0), Due.BEYOND);
    Due.is("traits -1", x.person(0, -1), Due.BEYOND);
    Due.is("traits 16", x.person(0, 16), Due.BEYOND);
    Due.is("none came", x.count(0), 0);
    Due.is("km 0", x.person(0, 0), 0);
    Due.is("km 69", x.person(69, 15), 1);
    int[] first = {0, 0, 0, 0, 0, 3, 2, 0};
    int[] second = {6, 9, 15, 0, 0, 0, 2, 1};
    for (int what = 0; what < 8; what++) {
      Due.is("first " + what, x.ofPerson(0, what), first[what]);
      Due.is("second " + what, x.ofPerson(1, what), second[what]);
    }
    for (int p = 2; p < 8; p++) Due.is("person " + p, x.person(10 * (p - 1) + p, p), p);
    Due.is("full", x.person(0, 0), Due.FULL);
    Due.is("BEYOND is asked first", x.person(0, 16), Due.BEYOND);
    Due.is("PEOPLE", x.count(0), 8);
  }

  private static void ofPerson() {
    int[][] fills = {{3, 3, 3, 3}, {3, 4, 5, 3}, {6, 6, 6, 6}, {9, 9, 9, 9}, {8, 9, 10, 8}, {3, 3, 3, 3}, {9, 8, 7, 6}};
    int[] drinks = {2, 1, 3, 2, 1, 2, 2};
    WellRefuses x = new WellRefuses();
    x.person(0, 7);
    for (int kind = 0; kind < 7; kind++) {
      for (int m = 0; m < 4; m++) {
        x.become(0, 10 * kind + m);
        Due.is("KIND", x.ofPerson(0, 0), kind);
        Due.is("m", x.ofPerson(0, 1), m);
        Due.is("FILLS of " + kind + " " + m, x.ofPerson(0, 5), fills[kind][m]);
        Due.is("DRINKS of " + kind, x.ofPerson(0, 6), drinks[kind]);
      }
    }
    x.change(0, 1, 41);
    x.change(0, 2, 17);
    Due.is("TRAITS", x.ofPerson(0, 2), 7);
    Due.is("WATER", x.ofPerson(0, 3), 41);
    Due.is("THIRST", x.ofPerson(0, 4), 17);
    Due.is("GIVEN", x.ofPerson(0, 7), 1);
    Due.text(x, 0, "d*(t=7)&w=41");
    Due.is("not GIVEN on DAY 0", x.ofPerson(0, 7), 0);
    Due.is("what -1", x.ofPerson(0, -1), Due.BEYOND);
    Due.is("what 8", x.ofPerson(0, 8), Due.BEYOND);
    Due.is("person -1", x.ofPerson(-1, 0), Due.BEYOND);
    Due.is("person 1", x.ofPerson(1, 0), Due.BEYOND);
    Due.text(x, 0, "0-t");
    Due.is("held at 0: not GIVEN", x.ofPerson(0, 7), 0);
    Due.text(x, 0, "d=0");
    Due.is("GIVEN on DAY 0", x.ofPerson(0, 7), 1);
    x.days(1);
    Due.is("not GIVEN on DAY 1", x.ofPerson(0, 7), 0);
    x.days(6);
    Due.is("GIVEN on DAY 7", x.ofPerson(0, 7), 1);
  }

  private static void change() {
    WellRefuses x = new WellRefuses();
    x.person(0, 5);
    int[] most = {15, 999, 99};
    int[] was = {5, 0, 0};
    for (int what = 0; what < 3; what++) {
      Due.is("change to most", x.change(0, what, most[what]), was[what]);
      Due.is("above", x.change(0, what, most[what] + 1), Due.BEYOND);
      Due.is("below", x.change(0, what, -1), Due.BEYOND);
      Due.is("it stands", x.ofPerson(0, what + 2), most[what]);
      Due.is("change to 0", x.change(0, what, 0), most[what]);
      Due.is("it is 0", x.ofPerson(0, what + 2), 0);
    }
    Due.is("what -1", x.change(0, -1, 0), Due.BEYOND);
    Due.is("what 3", x.change(0, 3, 0), Due.BEYOND);
    Due.is("nobody", x.change(1, 0, 0), Due.BEYOND);
    Due.is("below nobody", x.change(-1, 0, 0), Due.BEYOND);
  }

  private static void owe() {
    WellRefuses x = new WellRefuses();
    for (int p = 0; p < 3; p++) x.person(0, 0);
    Due.is("owe", x.owe(0, 2, 99), 0);
    Due.is("owe again", x.owe(0, 2, 40), 99);
    Due.is("owes", x.owes(0, 2), 40);
    Due.is("the other way", x.owes(2, 0), 0);
    Due.is("another", x.owes(0, 1), 0);
    Due.is("100", x.owe(0, 2, 100), Due.BEYOND);
    Due.is("-1", x.owe(0, 2, -1), Due.BEYOND);
    Due.is("one and the same", x.owe(1, 1, 0), Due.BEYOND);
    Due.is("nobody owes", x.owe(3, 0, 0), Due.BEYOND);
    Due.is("owes nobody", x.owe(0, 3, 0), Due.BEYOND);
    Due.is("below", x.owe(-1, 0, 0), Due.BEYOND);
    Due.is("to below", x.owe(0, -1, 0), Due.BEYOND);
    Due.is("owes: one and the same", x.owes(2, 2), Due.BEYOND);
    Due.is("owes: nobody", x.owes(3, 0), Due.BEYOND);
    Due.is("owes: to nobody", x.owes(0, 3), Due.BEYOND);
    Due.is("owes: below", x.owes(-1, 0), Due.BEYOND);
    Due.is("owes: to below", x.owes(0, -1), Due.BEYOND);
    Due.is("it stands", x.owes(0, 2), 40);
    Due.is("in all", x.count(4), 40);
  }

  private static void become() {
    WellRefuses x = new WellRefuses();
    x.person(34, 9);
    x.person(0, 0);
    x.change(0, 1, 500);
    x.change(0, 2, 50);
    x.owe(0, 1, 5);
    Due.is("become", x.become(0, 58), 3);
    int[] due = {5, 8, 9, 500, 50, 3, 2, 1};
    for (int what = 0; what < 8; what++) Due.is("then " + what, x.ofPerson(0, what), due[what]);
    Due.is("the debt stays", x.owes(0, 1), 5);
    Due.is("km 70", x.become(0, 70), Due.BEYOND);
    Due.is("km -1", x.become(0, -1), Due.BEYOND);
    Due.is("nobody", x.become(2, 0), Due.BEYOND);
    Due.is("below", x.become(-1, 0), Due.BEYOND);
    Due.is("it stands", x.become(0, 0), 5);
  }

  private static void as() {
    int[] under = {0b0000001, 0b0000011, 0b0000101, 0b0001001, 0b0010011, 0b0100101, 0b1001001};
    WellRefuses x = new WellRefuses();
    x.person(0, 0);
    for (int kind = 0; kind < 7; kind++) {
      x.become(0, 10 * kind + kind + 2);
      for (int other = 0; other < 7; other++) {
        int due = (under[kind] >> other & 1) == 1 ? kind + 2 : Due.KIND;
        Due.is(kind + " as " + other, x.as(0, other), due);
      }
    }
    Due.is("told 5", x.told(5), 49 - 16);
    Due.is("kind 7", x.as(0, 7), Due.BEYOND);
    Due.is("kind -1", x.as(0, -1), Due.BEYOND);
    Due.is("nobody", x.as(1, 1), Due.BEYOND);
    Due.is("below", x.as(-1, 1), Due.BEYOND);
  }
}
