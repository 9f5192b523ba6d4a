/** Promises 25 to 27: draws, VOICES and THE TRACE. */
public final class VoicesTest {
  public static void main(String[] args) {
    seed();
    voices();
    errors();
    Due.done();
  }

  private static void seed() {
    WellRefuses x = new WellRefuses();
    Due.is("z at first", x.seed(-7), 1);
    Due.is("z", x.count(9), -7);
    Due.is("z that looks like an ERROR", x.seed(Due.BEYOND), -7);
    Due.is("is none", x.seed(5), Due.BEYOND);
    Due.is("told", x.told(1), 0);
    x.person(0, 0);
    x.loose(1);
    Due.is("z is drawn on", x.count(9), 5 * 1103515245 + 12345);
  }

  /** PERSON 3, m 2, x 10: what each VOICE of each KIND gives, and the BODIES. */
  private static void voices() {
    Due.of("n is the number, m as told: 0 lets, 1 fills, 2 lends, 3 tells.");
    Due.of("BODIES: ONE: 10 lets: x + n. 11 fills: lets(x) * 2. 12 lends: x - m. 13 tells: fills(x) ^ lends(x). SAINT: 20 lets: super.lets(x) * 3. FARMER: 30 fills: super.fills(x) - lends(1). STRANGER: 40 lends: -super.lends(x). BRIDE: 50 tells: super.tells(x) - lets(2). BOY: 60 fills: super.fills(x + 1). TWIN: 70 lends: super.lends(x) ^ n. 71 tells: fills(x) - super.tells(x).");
    Due.of("lets(..) is the BODY of its KIND, or of the next KIND above that has one; super.lets(..) that from the KIND above the BODY's on.");
    voice(0, 0, 13, 10);
    voice(0, 1, 26, 11, 10);
    voice(0, 2, 8, 12);
    voice(0, 3, 26 ^ 8, 13, 11, 10, 12);
    voice(1, 0, 39, 20, 10);
    voice(1, 1, 78, 11, 20, 10);
    voice(1, 2, 8, 12);
    voice(1, 3, 78 ^ 8, 13, 11, 20, 10, 12);
    voice(2, 0, 13, 10);
    voice(2, 1, 26 + 1, 30, 11, 10, 12);
    voice(2, 2, 8, 12);
    voice(2, 3, 27 ^ 8, 13, 30, 11, 10, 12, 12);
    voice(3, 0, 13, 10);
    voice(3, 1, 26, 11, 10);
    voice(3, 2, -8, 40, 12);
    voice(3, 3, 26 ^ -8, 13, 11, 10, 40, 12);
    voice(4, 0, 39, 20, 10);
    voice(4, 1, 78, 11, 20, 10);
    voice(4, 2, 8, 12);
    voice(4, 3, (78 ^ 8) - 15, 50, 13, 11, 20, 10, 12, 20, 10);
    voice(5, 0, 13, 10);
    voice(5, 1, 28 + 1, 60, 30, 11, 10, 12);
    voice(5, 2, 8, 12);
    voice(5, 3, 29 ^ 8, 13, 60, 30, 11, 10, 12, 12);
    voice(6, 0, 13, 10);
    voice(6, 1, 26, 11, 10);
    voice(6, 2, -8 ^ 3, 70, 40, 12);
    voice(6, 3, 26 - (26 ^ (-8 ^ 3)), 71, 11, 10, 13, 11, 10, 70, 40, 12);
    WellRefuses twin = new WellRefuses();
    for (int p = 0; p < 4; p++) twin.person(60, 0);
    Due.is("a TWIN's lends turns bits", twin.voice(3, 2, 9), -9 ^ 3);
    WellRefuses x = new WellRefuses();
    x.person(10, 0);
    Due.is("ints go round", x.voice(0, 0, Integer.MAX_VALUE), Integer.MAX_VALUE * 3);
    x.person(29, 0);
    Due.is("a FARMER's lends(1) by m", x.voice(1, 1, 0), 2 + 8);
    x.become(1, 9);
    Due.is("the least int less 9", x.voice(1, 2, Integer.MIN_VALUE), Integer.MAX_VALUE - 8);
    Due.is("looks like an ERROR", x.voice(1, 2, Due.NONE + 9), Due.NONE);
    Due.is("is none", x.told(2), 0);
  }

  private static void voice(int kind, int act, int due, int... bodies) {
    WellRefuses x = new WellRefuses();
    for (int p = 0; p < 5; p++) x.person(0, 0);
    x.become(3, 10 * kind + 2);
    x.voice(1, 3, 0);
    Due.is("VOICE " + kind + " " + act, x.voice(3, act, 10), due);
    Due.is("how many BODIES", x.count(8), bodies.length);
    for (int i = 0; i < bodies.length; i++) Due.is("BODY " + i + " of " + kind + " " + act, x.trace(i), bodies[i]);
    Due.is("no more", x.trace(bodies.length), Due.NONE);
  }

  private static void errors() {
    WellRefuses x = new WellRefuses();
    x.person(0, 0);
    x.voice(0, 1, 0);
    Due.is("nobody", x.voice(1, 0, 0), Due.BEYOND);
    Due.is("below", x.voice(-1, 0, 0), Due.BEYOND);
    Due.is("act 4", x.voice(0, 4, 0), Due.BEYOND);
    Due.is("act -1", x.voice(0, -1, 0), Due.BEYOND);
    Due.is("THE TRACE stays", x.count(8), 2);
    Due.is("its first", x.trace(0), 11);
    Due.is("-1", x.trace(-1), Due.NONE);
    Due.is("2", x.trace(2), Due.NONE);
    Due.is("40", x.trace(40), Due.NONE);
    Due.is("the least int", x.trace(Integer.MIN_VALUE), Due.NONE);
  }
}
