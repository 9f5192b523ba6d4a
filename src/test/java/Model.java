import java.util.ArrayList;
import java.util.List;

/**
 * The document once more, worked out another way (KINDS as classes, TEXTS by splitting, copies of
 * all for each thought), so that a slip in one of the two shows in ModelTest.
 */
final class Model {
  private static final int LOW = -1000000000;

  static final class Refused extends RuntimeException {
    final int k;
    Refused(int k) { super(null, null, false, false); this.k = k; }
  }

  // ---- KINDS

  static class One {
    int number, m;
    List<Integer> trace;
    int fills() { return 3; }
    int drinks() { return 2; }
    int lets(int x) { trace.add(10); return x + number; }
    int fills(int x) { trace.add(11); return lets(x) * 2; }
    int lends(int x) { trace.add(12); return x - m; }
    int tells(int x) { trace.add(13); int a = fills(x); int b = lends(x); return a ^ b; }
  }

  static class Saint extends One {
    @Override int fills() { return super.fills() + m % 3; }
    @Override int drinks() { return 1; }
    @Override int lets(int x) { trace.add(20); return super.lets(x) * 3; }
  }

  static class Farmer extends One {
    @Override int fills() { return 2 * super.fills(); }
    @Override int drinks() { return super.drinks() + 1; }
    @Override int fills(int x) { trace.add(30); int a = super.fills(x); int b = lends(1); return a - b; }
  }

  static class Stranger extends One {
    @Override int fills() { return 9; }
    @Override int lends(int x) { trace.add(40); return -super.lends(x); }
  }

  static final class Bride extends Saint {
    @Override int fills() { return super.fills() + 5; }
    @Override int tells(int x) { trace.add(50); int a = super.tells(x); int b = lets(2); return a - b; }
  }

  static final class Boy extends Farmer {
    @Override int fills() { return super.fills() / 2; }
    @Override int drinks() { return super.drinks() - 1; }
    @Override int fills(int x) { trace.add(60); return super.fills(x + 1); }
  }

  static final class Twin extends Stranger {
    @Override int fills() { return super.fills() - m; }
    @Override int lends(int x) { trace.add(70); return super.lends(x) ^ number; }
    @Override int tells(int x) { trace.add(71); int a = fills(x); int b = super.tells(x); return a - b; }
  }

  private static final Class<?>[] KINDS = {
    One.class, Saint.class, Farmer.class, Stranger.class, Bride.class, Boy.class, Twin.class,
  };

  private static One oneOf(int kind, int number, int m) {
    One[] all = {new One(), new Saint(), new Farmer(), new Stranger(), new Bride(), new Boy(), new Twin()};
    One one = all[kind];
    one.number = number;
    one.m = m;
    one.trace = new ArrayList<>();
    return one;
  }

  // ---- TEXTS

  /** What the text is worth, or null when it is no TEXT. */
  private static Integer worth(String s, int level, int open, String names, int[] v) {
    String[] signs = {"|", "&", "<=>", "+-", "*/%"};
    if (level == 5) return worthOfLast(s, open, names, v);
    int depth = 0;
    for (int i = s.length() - 1; i >= 0; i--) {
      char c = s.charAt(i);
      if (c == ')') depth++;
      if (c == '(') depth--;
      if (depth != 0 || signs[level].indexOf(c) < 0) continue;
      Integer a = worth(s.substring(0, i), level == 2 ? 3 : level, open, names, v);
      Integer b = worth(s.substring(i + 1), level + 1, open, names, v);
      return a == null || b == null ? null : (Integer) joined(c, a, b);
    }
    return worth(s, level + 1, open, names, v);
  }

  private static Integer worthOfLast(String s, int open, String names, int[] v) {
    if (s.isEmpty()) return null;
    char c = s.charAt(0);
    if (s.matches("[0-9]{1,4}")) return Integer.parseInt(s);
    if (s.length() == 1 && names.indexOf(c) >= 0) return v[names.indexOf(c)];
    if (c == '!' && open < 5) {
      Integer a = worthOfLast(s.substring(1), open + 1, names, v);
      return a == null ? null : (Integer) (a == 0 ? 1 : 0);
    }
    if (c == '(' && s.endsWith(")") && open < 5) {
      return worth(s.substring(1, s.length() - 1), 0, open + 1, names, v);
    }
    return null;
  }

  private static int joined(char c, int a, int b) {
    switch (c) {
      case '|': return a != 0 || b != 0 ? 1 : 0;
      case '&': return a != 0 && b != 0 ? 1 : 0;
      case '<': return a < b ? 1 : 0;
      case '=': return a == b ? 1 : 0;
      case '>': return a > b ? 1 : 0;
      case '+': return (int) ((long) a + b);
      case '-': return (int) ((long) a - b);
      case '*': return (int) ((long) a * b);
      case '/': return b == 0 ? 0 : (int) ((long) a / b);
      default: return b == 0 ? 0 : (int) ((long) a % b);
    }
  }

  private static boolean isText(String s, String names) {
    return worth(s, 0, 0, names, new int[3]) != null;
  }

  private static boolean goesOn(String s, String names) {
    for (String end = ""; end.length() < 6; end += ")") {
      if (isText(s + end, names) || isText(s + "0" + end, names)) return true;
    }
    return false;
  }

  private static int fault(String s, String names) {
    if (isText(s, names)) return -1;
    for (int i = 0; i < s.length(); i++) {
      if (!goesOn(s.substring(0, i + 1), names)) return i;
    }
    return s.length();
  }

  // ---- all that an IMAGE keeps

  private static final class All {
    int[][] people = new int[8][5]; // kind, m, TRAITS, WATER, THIRST
    int[][] owes = new int[8][8];
    int size, day, z = 1;
    String tape = "";
    String[] texts = new String[2];
    List<Integer> waiting = new ArrayList<>();

    All copy() {
      All all = new All();
      for (int p = 0; p < 8; p++) {
        all.people[p] = people[p].clone();
        all.owes[p] = owes[p].clone();
      }
      all.size = size;
      all.day = day;
      all.z = z;
      all.tape = tape;
      all.texts = texts.clone();
      all.waiting = new ArrayList<>(waiting);
      return all;
    }

    One one(int p) { return oneOf(people[p][0], p, people[p][1]); }

    int law(int use, int a, int b, int c) {
      int v;
      if (texts[use] == null) v = use == 0 ? a % 2 : a > 3 ? 1 : 0;
      else v = worth(texts[use], 0, 0, names(use), new int[] {a, b, c});
      return v < 0 ? 0 : v > 1 ? 1 : v;
    }

    boolean given(int p) { return law(0, people[p][2], day % 7, people[p][3]) == 1; }

    void pass(int n, int withheld) {
      while (n-- > 0) {
        for (int p = 0; p < size; p++) goes(p, withheld);
        for (int p = 0; p < size; p++) {
          int left = people[p][3] - one(p).drinks();
          people[p][3] = Math.max(0, left);
          people[p][4] = left < 0 ? Math.min(99, people[p][4] - left) : 0;
        }
        day++;
      }
    }

    void goes(int p, int withheld) {
      if (given(p)) {
        people[p][3] = Math.min(999, people[p][3] + one(p).fills());
        return;
      }
      int most = 0;
      int who = -1;
      for (int q = size - 1; q >= 0; q--) {
        boolean lends = q != p && q != withheld && law(1, people[q][3], owes[p][q], people[q][1]) == 1;
        if (lends && people[q][3] > 0 && people[q][3] >= most) {
          most = people[q][3];
          who = q;
        }
      }
      if (who < 0) return;
      people[who][3]--;
      people[p][3] = Math.min(999, people[p][3] + 1);
      owes[p][who] = Math.min(99, owes[p][who] + 1);
    }

    int sum(int what) {
      int sum = 0;
      for (int[] one : people) sum += one[what];
      return sum;
    }

    int owed() {
      int sum = 0;
      for (int[] row : owes) for (int v : row) sum += v;
      return sum;
    }

    int given() {
      int set = 0;
      for (int p = 0; p < size; p++) if (given(p)) set += 1 << p;
      return set;
    }

    /** The first ring, as the document orders them, is sought anew after each. */
    int strike() {
      for (int struck = 0; ; struck++) {
        int[] ring = ring();
        if (ring == null) return struck;
        int least = 100;
        for (int i = 0; i < ring.length; i++) least = Math.min(least, owes[ring[i]][ring[(i + 1) % ring.length]]);
        for (int i = 0; i < ring.length; i++) owes[ring[i]][ring[(i + 1) % ring.length]] -= least;
      }
    }

    int[] ring() {
      for (int a = 0; a < 8; a++) {
        for (int b = a + 1; b < 8; b++) if (owes[a][b] > 0 && owes[b][a] > 0) return new int[] {a, b};
      }
      for (int abc = 0; abc < 512; abc++) {
        int a = abc >> 6, b = abc >> 3 & 7, c = abc & 7;
        if (b <= a || c <= a || b == c) continue;
        if (owes[a][b] > 0 && owes[b][c] > 0 && owes[c][a] > 0) return new int[] {a, b, c};
      }
      return null;
    }
  }

  private All all = new All();
  private All image;
  private int images;
  private List<Integer> trace = new ArrayList<>();
  private final long[][] sheets = new long[4][];
  private final int[] bits = new int[4];
  private final int[] told = new int[6];

  private static String names(int use) { return use == 0 ? "tdw" : "wom"; }

  /** Answers the call, counting an ERROR as told() does. */
  int call(String name, int[] a, long word) {
    try {
      return answer(name, a, word);
    } catch (Refused refused) {
      told[refused.k]++;
      return LOW - refused.k;
    }
  }

  private static void need(boolean so, int k) { if (!so) throw new Refused(k); }
  private static void within(int v, int least, int most) { need(v >= least && v <= most, 1); }
  private void somebody(int p) { within(p, 0, all.size - 1); }
  private void there(int s) { within(s, 0, 3); need(sheets[s] != null, 2); }

  private All behind(int n, int withheld) {
    All copy = all.copy();
    copy.pass(n, withheld);
    return copy;
  }

  private int answer(String name, int[] a, long word) {
    switch (name) {
      case "person":
        within(a[0], 0, 69);
        within(a[1], 0, 15);
        need(all.size < 8, 4);
        all.people[all.size] = new int[] {a[0] / 10, a[0] % 10, a[1], 0, 0};
        return all.size++;
      case "ofPerson":
        somebody(a[0]);
        within(a[1], 0, 7);
        if (a[1] < 5) return all.people[a[0]][a[1]];
        return a[1] == 5 ? all.one(a[0]).fills() : a[1] == 6 ? all.one(a[0]).drinks() : all.given() >> a[0] & 1;
      case "change": {
        somebody(a[0]);
        within(a[1], 0, 2);
        within(a[2], 0, new int[] {15, 999, 99}[a[1]]);
        int was = all.people[a[0]][a[1] + 2];
        all.people[a[0]][a[1] + 2] = a[2];
        return was;
      }
      case "owe": {
        somebody(a[0]);
        somebody(a[1]);
        need(a[0] != a[1], 1);
        within(a[2], 0, 99);
        int was = all.owes[a[0]][a[1]];
        all.owes[a[0]][a[1]] = a[2];
        return was;
      }
      case "owes":
        somebody(a[0]);
        somebody(a[1]);
        need(a[0] != a[1], 1);
        return all.owes[a[0]][a[1]];
      case "become": {
        somebody(a[0]);
        within(a[1], 0, 69);
        int was = all.people[a[0]][0];
        all.people[a[0]][0] = a[1] / 10;
        all.people[a[0]][1] = a[1] % 10;
        return was;
      }
      case "as":
        somebody(a[0]);
        within(a[1], 0, 6);
        need(KINDS[a[1]].isInstance(all.one(a[0])), 5);
        return all.people[a[0]][1];
      case "feed": {
        within(a[0], 1, 8);
        need(all.tape.length() + a[0] <= 50, 4);
        for (int i = 0; i < a[0]; i++) {
          all.tape += (char) (word & 255);
          word >>= 8;
        }
        return all.tape.length();
      }
      case "text": {
        within(a[0], 0, 1);
        String s = all.tape;
        all.tape = "";
        int fault = fault(s, names(a[0]));
        if (fault >= 0) return -10 - fault;
        all.texts[a[0]] = s;
        return 1;
      }
      case "law":
        within(a[0], 0, 1);
        return all.law(a[0], a[1], a[2], a[3]);
      case "days":
        within(a[0], 1, 60);
        need(all.day + a[0] <= 9999, 3);
        all.pass(a[0], -1);
        return all.sum(3);
      case "loose":
        within(a[0], 1, 40);
        need(all.day + a[0] <= 9999, 3);
        for (int i = 0; i < a[0]; i++) {
          for (int p = 0; p < all.size; p++) {
            all.z = all.z * 1103515245 + 12345;
            int drawn = all.z >>> 8;
            if (drawn % 8 == 0) all.people[p][2] ^= new int[] {1, 2, 4, 8}[drawn / 8 % 4];
          }
          all.pass(1, -1);
        }
        return all.sum(3);
      case "strike":
        return all.strike();
      default:
        return thought(name, a);
    }
  }

  private int thought(String name, int[] a) {
    switch (name) {
      case "then":
        within(a[0], 0, 60);
        somebody(a[1]);
        within(a[2], 0, 1);
        return behind(a[0], -1).people[a[1]][3 + a[2]];
      case "first":
        within(a[0], 1, 99);
        within(a[1], 0, 1);
        for (int n = 0; n <= 60; n++) {
          All then = behind(n, -1);
          for (int p = 0; p < all.size; p++) {
            if (then.people[p][4] >= a[0]) return a[1] == 0 ? n : p;
          }
        }
        throw new Refused(2);
      case "rules":
        within(a[0], 0, 3);
        within(a[1], 0, 2);
        there(a[0]);
        return ruled(a[0], a[1]);
      case "turn": {
        somebody(a[0]);
        within(a[1], 0, 1);
        int best = -1, most = -1;
        for (int t = 0; t < 16; t++) {
          int given = 0;
          for (int k = 0; k < 7; k++) given += all.law(0, t, (all.day + k) % 7, all.people[a[0]][3]);
          if (given > most) { most = given; best = t; }
        }
        return a[1] == 0 ? best : most;
      }
      case "cover": {
        int needed = 0;
        for (int p = 0; p < all.size; p++) needed += all.one(p).drinks();
        for (int many = 0; many <= 8; many++) {
          for (int set = 0; set < 256; set++) {
            int fills = 0;
            for (int p = 0; p < all.size; p++) if ((set >> p & 1) == 1) fills += all.one(p).fills();
            boolean allGiven = (set & all.given()) == set;
            if (Integer.bitCount(set) == many && allGiven && fills >= needed) return set;
          }
        }
        throw new Refused(2);
      }
      case "kept": {
        somebody(a[0]);
        within(a[1], 0, 60);
        int set = 0;
        for (int p = 0; p < all.size; p++) {
          boolean more = behind(a[1], a[0]).people[p][4] > behind(a[1], -1).people[p][4];
          if (p != a[0] && more) set += 1 << p;
        }
        return set;
      }
      case "net": {
        somebody(a[0]);
        int net = 0;
        for (int q = 0; q < 8; q++) net += all.owes[q][a[0]];
        for (int q = 0; q < 8; q++) net -= all.owes[a[0]][q];
        return net;
      }
      case "struck": {
        within(a[0], 0, 1);
        All copy = all.copy();
        int struck = copy.strike();
        return a[0] == 0 ? struck : copy.owed();
      }
      case "odds": {
        somebody(a[0]);
        within(a[1], 0, 1);
        int above = 0, below = 7;
        for (int d = 0; d < 7; d++) above += all.law(0, all.people[a[0]][2], d, all.people[a[0]][3]);
        int x = above, y = below;
        while (x != 0) { int rest = y % x; y = x; x = rest; }
        return a[1] == 0 ? above / y : below / y;
      }
      case "dry":
        for (int n = 0; n <= 60; n++) if (behind(n, -1).given() == 0) return n;
        throw new Refused(2);
      default:
        return other(name, a);
    }
  }

  private int ruled(int s, int what) {
    List<int[]> fitting = new ArrayList<>();
    for (int mask = 0; mask < 16; mask++) {
      for (int value = 0; value < 16; value++) {
        boolean fits = (value | mask) == mask;
        for (int p = 0; p < all.size && p < sheets[s].length; p++) {
          boolean gives = (all.people[p][2] & mask) == value;
          if (sheets[s][p] == 1 && !gives) fits = false;
          if (sheets[s][p] == 0 && gives) fits = false;
        }
        if (fits) fitting.add(new int[] {mask, value});
      }
    }
    if (what == 0) return fitting.size();
    if (what == 1) {
      need(!fitting.isEmpty(), 2);
      return 16 * fitting.get(0)[0] + fitting.get(0)[1];
    }
    for (int difference = 0; ; difference++) {
      for (int t = 0; t < 16; t++) {
        int gives = 0;
        for (int[] rule : fitting) if ((t & rule[0]) == rule[1]) gives++;
        if (Math.abs(gives - (fitting.size() - gives)) == difference) return t;
      }
    }
  }

  private int other(String name, int[] a) {
    switch (name) {
      case "seed": {
        int was = all.z;
        all.z = a[0];
        return was;
      }
      case "voice": {
        somebody(a[0]);
        within(a[1], 0, 3);
        One one = all.one(a[0]);
        int said = a[1] == 0 ? one.lets(a[2]) : a[1] == 1 ? one.fills(a[2]) : a[1] == 2 ? one.lends(a[2]) : one.tells(a[2]);
        trace = one.trace;
        return said;
      }
      case "trace":
        need(a[0] >= 0 && a[0] < Math.min(40, trace.size()), 2);
        return trace.get(a[0]);
      case "sheet":
        within(a[0], 0, 3);
        need(a[1] == 0 || a[1] == 8 || a[1] == 16 || a[1] == 32, 1);
        if (a[1] == 0) {
          sheets[a[0]] = null;
          return 1;
        }
        need(a[2] >= 0, 3);
        need(a[2] <= 40, 1);
        sheets[a[0]] = new long[a[2]];
        bits[a[0]] = a[1];
        return 1;
      case "put":
        there(a[0]);
        within(a[1], 0, sheets[a[0]].length - 1);
        sheets[a[0]][a[1]] = Math.floorMod((long) a[2], 1L << bits[a[0]]);
        return 1;
      case "move": {
        within(a[0], 0, 3);
        within(a[2], 0, 3);
        need(sheets[a[0]] != null && sheets[a[2]] != null, 2);
        need(bits[a[0]] == bits[a[2]], 5);
        need(a[1] >= 0 && a[3] >= 0 && a[4] >= 0, 1);
        need((long) a[1] + a[4] <= sheets[a[0]].length && (long) a[3] + a[4] <= sheets[a[2]].length, 1);
        long[] was = sheets[a[0]].clone();
        for (int i = 0; i < a[4]; i++) sheets[a[2]][a[3] + i] = was[a[1] + i];
        return a[4];
      }
      case "traits":
        there(a[0]);
        for (int i = 0; ; i++) {
          if (i >= sheets[a[0]].length || i >= all.size || sheets[a[0]][i] > 15) return i;
          all.people[i][2] = (int) sheets[a[0]][i];
        }
      case "judge":
        there(a[0]);
        for (int i = 0; i < 41; i++) {
          boolean told = i < sheets[a[0]].length, is = i < all.size;
          if (!told && !is) return -1;
          if (told != is || sheets[a[0]][i] != all.people[i][3]) return i;
        }
        throw new IllegalStateException();
      case "image":
        image = all.copy();
        return ++images;
      case "restore":
        need(image != null, 2);
        all = image.copy();
        return all.day;
      case "tell":
        need(all.waiting.size() < 20, 4);
        all.waiting.add(a[0]);
        return all.waiting.size();
      case "check": {
        List<Integer> waiting = all.waiting;
        all.waiting = new ArrayList<>();
        for (int i = 0; i < waiting.size(); i++) {
          if (behind(i + 1, -1).sum(3) != waiting.get(i)) return 1 + i;
        }
        return 0;
      }
      case "count":
        within(a[0], 0, 9);
        return new int[] {
          all.size, all.day, all.sum(3), all.sum(4), all.owed(), all.given(), all.tape.length(),
          all.waiting.size(), Math.min(40, trace.size()), all.z,
        }[a[0]];
      case "told":
        within(a[0], 1, 5);
        return told[a[0]];
      default:
        throw new IllegalStateException(name);
    }
  }
}
