/** What "Terms" says ahead of all promises: the ERRORS, the KINDS, what a RULE gives to. */
public final class TermsTest {
  public static void main(String[] args) {
    errors();
    kinds();
    rules();
    Due.done();
  }

  private static void errors() {
    Due.of("ERRORS are answers below -1000000000: LOW is -1000000000; LOW - 1 BEYOND, LOW - 2 NONE, LOW - 3 STATE, LOW - 4 FULL, LOW - 5 KIND.");
    WellRefuses x = Due.people(8, 0, 0);
    Due.is("BEYOND", x.ofPerson(8, 0), -1000000001);
    Due.is("NONE", x.trace(0), -1000000002);
    Due.is("STATE", x.sheet(0, 8, -1), -1000000003);
    Due.is("FULL", x.person(0, 0), -1000000004);
    Due.is("KIND", x.as(0, 1), -1000000005);
    for (int k = 1; k <= 5; k++) Due.is("each once: " + k, x.told(k), 1);
  }

  private static void kinds() {
    Due.of("of KINDS: 0 ONE; 1 SAINT, 2 FARMER, 3 STRANGER under ONE; 4 BRIDE under SAINT; 5 BOY under FARMER; 6 TWIN under STRANGER;");
    String[] isOf = {"1000000", "1100000", "1010000", "1001000", "1100100", "1010010", "1001001"};
    for (int kind = 0; kind < 7; kind++) {
      WellRefuses x = Due.people(1, 10 * kind + 9 - kind, 0);
      Due.is("its KIND", x.ofPerson(0, 0), kind);
      for (int other = 0; other < 7; other++) {
        boolean isSo = isOf[kind].charAt(other) == '1';
        Due.is(kind + " as " + other, x.as(0, other), isSo ? 9 - kind : Due.KIND);
      }
    }
  }

  /** Each of the 81 RULES is made the only one that fits, by those on either side of it. */
  private static void rules() {
    Due.of("it gives to those whose TRAITS have just the bits of VALUE among those of MASK;");
    Due.of("RULES by a SHEET, which tells who was given (1), who wasn't (0), of PEOPLE 0, 1, ..");
    Due.of("how many there are by which that is so; the least;");
    int asked = 0;
    for (int mask = 0; mask < 16; mask++) {
      for (int value = 0; value <= mask; value++) {
        if ((value | mask) != mask) continue;
        asked++;
        WellRefuses x = onlyRule(mask, value);
        Due.is("only MASK " + mask + " VALUE " + value, x.rules(0, 0), 1);
        Due.is("MASK " + mask + " VALUE " + value, x.rules(0, 1), 16 * mask + value);
      }
    }
    Due.is("RULES in all", asked, 81);
  }

  private static WellRefuses onlyRule(int mask, int value) {
    WellRefuses x = new WellRefuses();
    x.sheet(0, 8, 8);
    x.put(0, x.person(0, value), 1);
    x.put(0, x.person(0, value | 15 - mask), 1);
    for (int bit = 1; bit < 16; bit *= 2) {
      if ((mask & bit) != 0) x.put(0, x.person(0, value ^ bit), 0);
    }
    return x;
  }
}
