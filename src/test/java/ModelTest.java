import java.lang.reflect.InvocationTargetException;
import java.lang.reflect.Method;
import java.util.ArrayList;
import java.util.Arrays;
import java.util.Comparator;
import java.util.List;
import java.util.Random;

/** Long runs of calls, drawn from fixed seeds, on the class and on the model. */
public final class ModelTest {
  private static final int RUNS = 120;
  private static final int CALLS = 512;
  private static final int[] ODD = {
    Integer.MIN_VALUE, Integer.MIN_VALUE + 1, -1000000001, -1, 61, 99, 100, 1000, 9999, 65536, Integer.MAX_VALUE,
  };
  private static final String[] TEXTS = {
    "t", "t%2", "d<3", "w<9", "!(t&d)", "t*d-w", "(t+d)%3=0", "0-1", "w>3", "w>o", "o<2", "m>4", "1", "0",
    "w%2=0", "t/4%2|d=6", "w*w*w*w*w*w*w", "9999*9999*9999", "t/0+w%0", "!!!!!t", "((((!t))))", "o+m<w", "d=d>0",
    "1<2<3", "12345", "!!!!!!t", "((((((t))))))", "t)", "(t", "", "t t", "+t", "t+", "w-3*o", "(d=0|d=3)&t>4",
  };

  public static void main(String[] args) throws Exception {
    List<Method> methods = new ArrayList<>();
    for (Method method : WellRefuses.class.getDeclaredMethods()) {
      if (java.lang.reflect.Modifier.isPublic(method.getModifiers())) methods.add(method);
    }
    methods.sort(Comparator.comparing(Method::getName));
    for (int run = 0; run < RUNS; run++) runOne(run, methods);
    Due.done();
  }

  private static void runOne(int run, List<Method> methods) throws Exception {
    Random random = new Random(77000 + run);
    WellRefuses x = new WellRefuses();
    Model model = new Model();
    int wild = run % 3 == 0 ? 4 : 25;
    for (int i = 0; i < 2 + random.nextInt(7); i++) {
      int km = random.nextInt(70), traits = random.nextInt(16);
      Due.is("person", x.person(km, traits), model.call("person", new int[] {km, traits}, 0));
    }
    for (int call = 0; call < CALLS; call++) {
      Method method = methods.get(random.nextInt(methods.size()));
      if (method.getName().equals("feed") && random.nextInt(3) > 0) {
        readText(random, x, model, run);
        continue;
      }
      if (method.getName().equals("owe") && random.nextInt(2) > 0) call--;
      ask(run, call, method, random, wild, x, model);
    }
    compareAll(run, x, model);
  }

  private static void ask(int run, int call, Method method, Random random, int wild, WellRefuses x, Model model)
      throws Exception {
    int many = method.getParameterCount();
    boolean feeds = method.getName().equals("feed");
    int[] a = new int[feeds ? 1 : many];
    for (int i = 0; i < a.length; i++) a[i] = argument(method.getName(), i, random, wild);
    if (method.getName().equals("tell") && random.nextInt(2) == 0) a[0] = x.count(2);
    if (method.getName().equals("put") && random.nextInt(2) == 0) {
      int[] which = {Math.max(a[1], 0) % 8, 3};
      a[2] = x.ofPerson(which[0], which[1]);
      Due.is("ofPerson", a[2], model.call("ofPerson", which, 0));
    }
    long word = random.nextLong();
    Object[] given = new Object[many];
    for (int i = 0; i < many; i++) given[i] = feeds ? (i == 0 ? (Object) word : (Object) a[0]) : (Object) a[i];
    int due = model.call(method.getName(), a, word);
    int got;
    try {
      got = (Integer) method.invoke(x, given);
    } catch (InvocationTargetException thrown) {
      Due.isTrue(method.getName() + Arrays.toString(a) + " threw " + thrown.getCause(), false);
      return;
    }
    Due.is("run " + run + " call " + call + ": " + method.getName() + Arrays.toString(a), got, due);
  }

  private static int argument(String name, int i, Random random, int wild) {
    if (random.nextInt(wild) == 0) return ODD[random.nextInt(ODD.length)];
    if (name.equals("person") || name.equals("become") && i == 1) return i == 0 || name.equals("become") ? random.nextInt(71) : random.nextInt(17);
    if (name.equals("change") && i == 2) return random.nextInt(3) > 0 ? random.nextInt(17) : random.nextInt(1010);
    if (name.equals("sheet") && i == 1) return 8 * random.nextInt(5);
    if (name.equals("sheet") && i == 2) return random.nextInt(4) == 0 ? random.nextInt(42) : random.nextInt(10);
    if (name.equals("put") && i == 2) return random.nextInt(2) == 0 ? random.nextInt(2) : random.nextInt(1 << random.nextInt(31));
    if (name.equals("days") || name.equals("loose")) return random.nextInt(8) > 0 ? random.nextInt(4) : random.nextInt(62);
    if (name.equals("then") && i == 0 || name.equals("kept") && i == 1) return random.nextInt(2) == 0 ? random.nextInt(6) : random.nextInt(62);
    if (name.equals("first") && i == 0) return random.nextInt(101);
    if (name.equals("owe") && i == 2) return random.nextInt(101);
    if (name.equals("law") || name.equals("voice") && i == 2) return i == 0 ? random.nextInt(3) : random.nextInt(2) == 0 ? random.nextInt(20) : random.nextInt();
    if (name.equals("seed")) return random.nextInt();
    if (name.equals("move") && i == 4) return random.nextInt(6);
    if (i == 0 && (name.equals("rules") || name.equals("judge") || name.equals("traits") || name.equals("put")
        || name.equals("sheet")) || name.equals("move") && i % 2 == 0) return random.nextInt(4);
    if (i == 1 && (name.equals("rules") || name.equals("then") || name.equals("turn"))) return random.nextInt(4);
    return random.nextInt(10);
  }

  private static void readText(Random random, WellRefuses x, Model model, int run) {
    StringBuilder text = new StringBuilder();
    if (random.nextInt(3) == 0) {
      String signs = "tdwom019!!(()|&<=>+-*/%";
      for (int i = random.nextInt(14); i >= 0; i--) text.append(signs.charAt(random.nextInt(signs.length())));
    } else {
      text.append(TEXTS[random.nextInt(TEXTS.length)]);
      if (random.nextInt(5) == 0) text.append("+*|&".charAt(random.nextInt(4))).append(TEXTS[random.nextInt(TEXTS.length)]);
    }
    for (int i = 0; i < text.length(); i++) {
      long word = text.charAt(i) | random.nextLong() << 8;
      Due.is("feed", x.feed(word, 1), model.call("feed", new int[] {1}, word));
    }
    int use = random.nextInt(2);
    Due.is("run " + run + " text " + use + " " + text, x.text(use), model.call("text", new int[] {use}, 0));
  }

  private static void compareAll(int run, WellRefuses x, Model model) {
    for (int p = 0; p < 8; p++) {
      for (int what = 0; what < 8; what++) {
        Due.is("run " + run + " end: ofPerson " + p + " " + what, x.ofPerson(p, what), model.call("ofPerson", new int[] {p, what}, 0));
        Due.is("run " + run + " end: owes " + p + " " + what, x.owes(p, what), model.call("owes", new int[] {p, what}, 0));
      }
    }
    for (int i = 0; i < 10; i++) Due.is("run " + run + " end: count " + i, x.count(i), model.call("count", new int[] {i}, 0));
    for (int i = 0; i < 7; i++) Due.is("run " + run + " end: told " + i, x.told(i), model.call("told", new int[] {i}, 0));
  }
}
