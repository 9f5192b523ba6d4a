import java.lang.reflect.Method;
import java.lang.reflect.Modifier;
import java.util.ArrayList;
import java.util.Arrays;
import java.util.List;
import java.util.Map;
import java.util.TreeMap;
import java.util.TreeSet;

/**
 * Each act with arguments on both sides of all that it takes, in states where nothing is there yet,
 * some is, all is full, and on the last DAY: which ERRORS it answers, that told() counts just these,
 * and that a refused one leaves no trace behind (a twin that wasn't asked goes on alike).
 */
public final class RefusalsTest {
  private static final String[] STATES = {"new", "some", "full", "last"};
  private static final int[] FEW = {Integer.MIN_VALUE, -1, 0, 1, 2, 3, 4, 7, 8, Integer.MAX_VALUE};
  private static final int[] MOVED = {-1, 0, 3, 40};

  /** By each act: the ERRORS that the document tells of it. */
  private static final String[] ERRORS = {
    "person 14", "ofPerson 1", "change 1", "owe 1", "owes 1", "become 1", "as 15", "feed 14", "text 1", "law 1",
    "days 13", "loose 13", "strike ", "then 1", "first 12", "rules 12", "turn 1", "cover 2", "kept 1", "net 1",
    "struck 1", "odds 1", "dry 2", "seed ", "voice 1", "trace 2", "sheet 13", "put 12", "move 125", "traits 12",
    "judge 12", "image ", "restore 2", "tell 4", "check ", "count 1", "told 1",
  };

  public static void main(String[] args) throws Exception {
    Due.of("Each act tells its ERRORS in the order in which they are asked; one that answers an ERROR changes nothing but what told() tells.");
    Map<String, TreeSet<Integer>> seen = new TreeMap<>();
    for (Method method : WellRefuses.class.getDeclaredMethods()) {
      if (!Modifier.isPublic(method.getModifiers())) continue;
      TreeSet<Integer> errors = new TreeSet<>();
      seen.put(method.getName(), errors);
      for (String state : STATES) askAll(method, state, new int[method.getParameterCount()], 0, errors);
    }
    Due.is("acts", seen.size(), ERRORS.length);
    for (String line : ERRORS) {
      String[] parts = line.split(" ", 2);
      StringBuilder found = new StringBuilder();
      for (int k : seen.getOrDefault(parts[0], new TreeSet<>())) found.append(k);
      Due.isTrue("ERRORS of " + parts[0] + " are " + parts[1] + ": " + found, found.toString().equals(parts[1]));
    }
    Due.done();
  }

  private static void askAll(Method method, String state, int[] given, int i, TreeSet<Integer> errors) throws Exception {
    if (i == given.length) {
      ask(method, state, given, errors);
      return;
    }
    for (int v : valuesOf(method.getName(), i)) {
      given[i] = v;
      askAll(method, state, given, i + 1, errors);
    }
  }

  private static int[] valuesOf(String name, int i) {
    switch (name) {
      case "person": return i == 0 ? new int[] {-1, 0, 69, 70} : new int[] {-1, 0, 15, 16};
      case "change": return i < 2 ? new int[] {-1, 0, 1, 2, 3, 8} : new int[] {-1, 0, 15, 16, 99, 100, 999, 1000};
      case "owe": return i < 2 ? new int[] {-1, 0, 2, 7, 8} : new int[] {-1, 0, 99, 100};
      case "become": return i == 0 ? FEW : new int[] {-1, 0, 69, 70};
      case "feed": return i == 0 ? new int[] {0x31} : new int[] {Integer.MIN_VALUE, -1, 0, 1, 8, 9, Integer.MAX_VALUE};
      case "law": return i == 0 ? FEW : new int[] {0};
      case "days":
      case "loose": return new int[] {Integer.MIN_VALUE, -1, 0, 1, 40, 41, 60, 61, Integer.MAX_VALUE};
      case "then": return i == 0 ? new int[] {-1, 0, 60, 61} : i == 1 ? FEW : new int[] {-1, 0, 1, 2};
      case "first": return i == 0 ? new int[] {-1, 0, 1, 99, 100} : new int[] {-1, 0, 1, 2};
      case "kept": return i == 0 ? FEW : new int[] {-1, 0, 60, 61};
      case "seed":
      case "tell": return new int[] {Integer.MIN_VALUE, Due.BEYOND, -1, 0, 1, Integer.MAX_VALUE};
      case "voice": return i == 2 ? new int[] {Due.NONE} : FEW;
      case "trace": return new int[] {Integer.MIN_VALUE, -1, 0, 1, 8, 9, 39, 40, Integer.MAX_VALUE};
      case "sheet": return i == 1 ? new int[] {-8, 0, 8, 9, 16, 32, 64} : i == 0 ? new int[] {-1, 0, 3, 4} : new int[] {-1, 0, 40, 41};
      case "put": return i == 0 ? new int[] {-1, 0, 1, 2, 3, 4} : i == 1 ? new int[] {-1, 0, 4, 5, 39, 40} : new int[] {9};
      case "move": return i % 2 == 0 && i < 4 ? new int[] {-1, 0, 1, 2, 3, 4} : MOVED;
      case "count": return new int[] {Integer.MIN_VALUE, -1, 0, 9, 10, Integer.MAX_VALUE};
      default: return FEW;
    }
  }

  private static void ask(Method method, String state, int[] given, TreeSet<Integer> errors) throws Exception {
    WellRefuses asked = made(state);
    WellRefuses twin = made(state);
    int[] before = toldOf(asked);
    Object[] arguments = new Object[given.length];
    for (int i = 0; i < given.length; i++) {
      boolean isWord = method.getParameterTypes()[i] == long.class;
      arguments[i] = isWord ? (Object) (long) given[i] : (Object) given[i];
    }
    int answer = (Integer) method.invoke(asked, arguments);
    int[] after = toldOf(asked);
    String call = state + ": " + method.getName() + Arrays.toString(given);
    int error = 0;
    for (int k = 1; k <= 5; k++) {
      if (after[k] != before[k]) error = k;
    }
    if (error == 0) {
      boolean anyNumber = method.getName().equals("seed") || method.getName().equals("voice");
      Due.isTrue(call + " is told", anyNumber || answer > Due.BEYOND);
      return;
    }
    before[error]++;
    Due.isTrue(call + " is told once", Arrays.equals(before, after));
    Due.is(call, answer, -1000000000 - error);
    errors.add(error);
    toldOf(twin);
    toldOf(twin);
    List<Integer> trace = new ArrayList<>();
    List<Integer> due = new ArrayList<>();
    goOn(asked, trace);
    goOn(twin, due);
    Due.isTrue(call + " leaves no trace", trace.equals(due));
  }

  private static int[] toldOf(WellRefuses x) {
    int[] told = new int[6];
    for (int k = 1; k <= 5; k++) told[k] = x.told(k);
    return told;
  }

  private static WellRefuses made(String state) {
    if (state.equals("new")) return new WellRefuses();
    WellRefuses x = state.equals("last") ? Due.atDay(9999) : new WellRefuses();
    int people = state.equals("full") ? 8 : 3;
    for (int p = 0; p < people; p++) {
      x.person(10 * (p % 7) + p, 15 - p);
      x.change(p, 1, state.equals("full") ? 999 : 10 * p);
      x.change(p, 2, state.equals("full") ? 99 : p);
      x.owe(p, (p + 1) % people, 99 - p);
    }
    Due.text(x, 0, "(t+d+w)%3|t=15");
    Due.text(x, 1, "w>o");
    x.seed(1000 + people);
    x.image();
    x.sheet(0, 8, 5);
    x.sheet(1, 16, 40);
    for (int i = 0; i < 5; i++) x.put(0, i, 10 + i);
    for (int i = 0; i < 8; i++) x.put(1, i, i);
    if (state.equals("full")) x.sheet(2, 8, 40);
    x.voice(2, 3, 5);
    for (int i = 0; i < (state.equals("full") ? 20 : 2); i++) x.tell(i == 0 ? x.then(1, 0, 0) : i);
    Due.feed(x, state.equals("full") ? "t+t+t+t+t+t+t+t+t+t+t+t+t+t+t+t+t+t+t+t+t+t+t+t+10" : "t+");
    return x;
  }

  /** All that can be told from outside, what tells it by changing it coming last. */
  private static void goOn(WellRefuses x, List<Integer> told) {
    for (int what = 0; what < 10; what++) told.add(x.count(what));
    int people = x.count(0);
    for (int p = 0; p < people; p++) {
      for (int what = 0; what < 5; what++) told.add(x.ofPerson(p, what));
      for (int q = 0; q < people; q++) {
        if (p != q) told.add(x.owes(p, q));
      }
    }
    for (int i = 0; i < x.count(8); i++) told.add(x.trace(i));
    for (int a = 0; a < 3; a++) {
      told.add(x.law(0, a, 0, 0));
      told.add(x.law(1, a, 1, 0));
    }
    told.add(x.check());
    if (x.count(6) < 50) x.feed('9', 1);
    told.add(x.text(0));
    told.add(x.law(0, 0, 0, 0));
    while (x.count(0) < 8) told.add(x.person(0, 0));
    for (int s = 0; s < 4; s++) {
      told.add(x.move(s, 0, (s + 1) % 4, 0, 0));
      told.add(x.put(s, 4, 1));
      told.add(x.put(s, 5, 1));
      told.add(x.put(s, 39, 1));
      told.add(x.traits(s));
      for (int p = 0; p < 8; p++) told.add(x.ofPerson(p, 2));
    }
    told.add(x.restore());
    told.add(x.count(0));
    told.add(x.count(2));
    told.add(x.count(9));
    told.add(x.image());
  }
}
