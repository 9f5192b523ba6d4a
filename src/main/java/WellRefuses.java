import java.util.Arrays;

/**
 * A well in a dry plain that gives to whom it likes: people, their debts, the laws by which it
 * gives and they lend, days, and what would be. The words in capitals in the comments are the
 * document's.
 */
public final class WellRefuses {
  private static final int LOW = -1000000000;
  private static final int BEYOND = 1;
  private static final int NONE = 2;
  private static final int STATE = 3;
  private static final int FULL = 4;
  private static final int UNLIKE_KIND = 5;
  private static final int NO_TEXT = -10;

  private static final int MOST_PEOPLE = 8;
  private static final int MOST_TRAITS = 15;
  private static final int MOST_WATER = 999;
  private static final int MOST_THIRST = 99;
  private static final int MOST_DEBT = 99;
  private static final int MOST_DAY = 9999;
  private static final int WEEK = 7;
  private static final int MOST_DAYS = 60;
  private static final int MOST_LOOSE_DAYS = 40;
  private static final int NOBODY = -1;

  private static final int GIVES = 0;
  private static final int LENDS = 1;
  private static final int MOST_BYTES = 50;

  private static final int SHEETS = 4;
  private static final int MOST_NUMBERS = 40;
  private static final int MOST_WAITING = 20;
  private static final int MOST_BODIES = 40;

  private final Well now = new Well();
  private final Well image = new Well();
  private final Thought thought = new Thought(now);
  private final Reader reader = new Reader();
  private final Rules rules = new Rules();
  private final Voices voices = new Voices();
  private final Sheet[] sheets = new Sheet[SHEETS];
  private final int[] told = new int[UNLIKE_KIND + 1];
  private int images = 0;

  public WellRefuses() {
    for (int i = 0; i < sheets.length; i++) sheets[i] = new Sheet();
  }

  // ---- people, debts

  public int person(int km, int traits) {
    if (!isKindAndM(km) || !isWithin(traits, MOST_TRAITS)) return error(BEYOND);
    if (now.people.size >= MOST_PEOPLE) return error(FULL);
    return now.people.join(km, traits);
  }

  public int ofPerson(int person, int what) {
    if (!isPerson(person) || !isWithin(what, 7)) return error(BEYOND);
    People people = now.people;
    switch (what) {
      case 0: return people.kind[person];
      case 1: return people.m[person];
      case 2: return people.traits[person];
      case 3: return people.water[person];
      case 4: return people.thirst[person];
      case 5: return people.fillsOf(person);
      case 6: return people.drinksOf(person);
      default: return people.isGiven(person) ? 1 : 0;
    }
  }

  public int change(int person, int what, int v) {
    if (!isPerson(person) || !isWithin(what, 2)) return error(BEYOND);
    int most = what == 0 ? MOST_TRAITS : what == 1 ? MOST_WATER : MOST_THIRST;
    if (!isWithin(v, most)) return error(BEYOND);
    People people = now.people;
    int[] row = what == 0 ? people.traits : what == 1 ? people.water : people.thirst;
    int was = row[person];
    row[person] = v;
    return was;
  }

  public int owe(int one, int other, int v) {
    if (!isPair(one, other) || !isWithin(v, MOST_DEBT)) return error(BEYOND);
    int[] row = now.people.debts.owed[one];
    int was = row[other];
    row[other] = v;
    return was;
  }

  public int owes(int one, int other) {
    if (!isPair(one, other)) return error(BEYOND);
    return now.people.debts.owed[one][other];
  }

  public int become(int person, int km) {
    if (!isPerson(person) || !isKindAndM(km)) return error(BEYOND);
    int was = now.people.kind[person];
    now.people.setKindAndM(person, km);
    return was;
  }

  public int as(int person, int kind) {
    if (!isPerson(person) || !isWithin(kind, Kinds.TWIN)) return error(BEYOND);
    if (!Kinds.isUnder(now.people.kind[person], kind)) return error(UNLIKE_KIND);
    return now.people.m[person];
  }

  // ---- texts

  public int feed(long word, int n) {
    if (n < 1 || n > 8) return error(BEYOND);
    Row tape = now.tape;
    if (n > MOST_BYTES - tape.size) return error(FULL);
    for (int i = 0; i < n; i++) tape.add((int) (word >>> (8 * i)) & 255);
    return tape.size;
  }

  public int text(int use) {
    if (!isWithin(use, LENDS)) return error(BEYOND);
    int fault = reader.read(now.tape, now.lawOf(use));
    now.tape.size = 0;
    return fault < 0 ? 1 : NO_TEXT - fault;
  }

  public int law(int use, int a, int b, int c) {
    if (!isWithin(use, LENDS)) return error(BEYOND);
    return now.lawOf(use).gives(a, b, c);
  }

  // ---- days

  public int days(int n) {
    if (n < 1 || n > MOST_DAYS) return error(BEYOND);
    if (n > MOST_DAY - now.people.day) return error(STATE);
    now.people.passDays(n, NOBODY);
    return now.people.waterInAll();
  }

  public int loose(int n) {
    if (n < 1 || n > MOST_LOOSE_DAYS) return error(BEYOND);
    if (n > MOST_DAY - now.people.day) return error(STATE);
    for (int i = 0; i < n; i++) {
      now.drawTraits();
      now.people.passDays(1, NOBODY);
    }
    return now.people.waterInAll();
  }

  public int strike() {
    return now.people.debts.strikeRings();
  }

  // ---- what would be

  public int then(int n, int person, int what) {
    if (!isWithin(n, MOST_DAYS) || !isPerson(person) || !isWithin(what, 1)) return error(BEYOND);
    People behind = thought.behind(n);
    return what == 0 ? behind.water[person] : behind.thirst[person];
  }

  public int first(int x, int what) {
    if (x < 1 || x > MOST_THIRST || !isWithin(what, 1)) return error(BEYOND);
    int n = thought.daysToThirst(x);
    if (n < 0) return error(NONE);
    return what == 0 ? n : thought.behind(n).leastThirsting(x);
  }

  public int rules(int sheet, int what) {
    if (!isSheet(sheet) || !isWithin(what, 2)) return error(BEYOND);
    if (sheets[sheet].isMissing()) return error(NONE);
    rules.find(now.people, sheets[sheet]);
    if (what == 0) return rules.size;
    if (what == 2) return rules.mostEvenTraits();
    return rules.size == 0 ? error(NONE) : rules.fitting[0];
  }

  public int turn(int person, int what) {
    if (!isPerson(person) || !isWithin(what, 1)) return error(BEYOND);
    int best = now.people.bestTraits(person);
    return what == 0 ? best : now.people.daysGiven(person, best);
  }

  public int cover() {
    int set = now.people.leastCover();
    return set < 0 ? error(NONE) : set;
  }

  public int kept(int person, int n) {
    if (!isPerson(person) || !isWithin(n, MOST_DAYS)) return error(BEYOND);
    return thought.keptBy(person, n);
  }

  public int net(int person) {
    if (!isPerson(person)) return error(BEYOND);
    return now.people.debts.netOf(person);
  }

  public int struck(int what) {
    if (!isWithin(what, 1)) return error(BEYOND);
    Debts debts = thought.behind(0).debts;
    int rings = debts.strikeRings();
    return what == 0 ? rings : debts.inAll();
  }

  public int odds(int person, int part) {
    if (!isPerson(person) || !isWithin(part, 1)) return error(BEYOND);
    int given = now.people.daysGiven(person, now.people.traits[person]);
    // 7 is a prime: only none and all of the days stand for less than sevenths.
    if (part == 0) return given == WEEK ? 1 : given;
    return given == WEEK || given == 0 ? 1 : WEEK;
  }

  public int dry() {
    int n = thought.daysToDry();
    return n < 0 ? error(NONE) : n;
  }

  // ---- draws, voices, sheets, images, what is told

  public int seed(int v) {
    int was = now.z;
    now.z = v;
    return was;
  }

  public int voice(int person, int act, int x) {
    if (!isPerson(person) || !isWithin(act, Voices.TELLS)) return error(BEYOND);
    return voices.said(now.people, person, act, x);
  }

  public int trace(int i) {
    if (i < 0 || i >= voices.bodies.size) return error(NONE);
    return voices.bodies.numbers[i];
  }

  public int sheet(int sheet, int bits, int n) {
    if (!isSheet(sheet)) return error(BEYOND);
    if (bits != 0 && bits != 8 && bits != 16 && bits != 32) return error(BEYOND);
    if (bits != 0 && n < 0) return error(STATE);
    if (bits != 0 && n > MOST_NUMBERS) return error(BEYOND);
    sheets[sheet].renew(bits, bits == 0 ? 0 : n);
    return 1;
  }

  public int put(int sheet, int i, int v) {
    if (!isSheet(sheet)) return error(BEYOND);
    if (sheets[sheet].isMissing()) return error(NONE);
    if (i < 0 || i >= sheets[sheet].size) return error(BEYOND);
    sheets[sheet].set(i, v);
    return 1;
  }

  public int move(int sheet, int i, int other, int j, int n) {
    if (!isSheet(sheet) || !isSheet(other)) return error(BEYOND);
    Sheet from = sheets[sheet];
    Sheet to = sheets[other];
    if (from.isMissing() || to.isMissing()) return error(NONE);
    if (from.bits != to.bits) return error(UNLIKE_KIND);
    if (!from.holds(i, n) || !to.holds(j, n)) return error(BEYOND);
    System.arraycopy(from.numbers, i, to.numbers, j, n);
    return n;
  }

  public int traits(int sheet) {
    if (!isSheet(sheet)) return error(BEYOND);
    Sheet row = sheets[sheet];
    if (row.isMissing()) return error(NONE);
    People people = now.people;
    int i = 0;
    while (i < row.size && i < people.size && isWithin(row.numbers[i], MOST_TRAITS)) {
      people.traits[i] = row.numbers[i];
      i++;
    }
    return i;
  }

  public int judge(int sheet) {
    if (!isSheet(sheet)) return error(BEYOND);
    Sheet row = sheets[sheet];
    if (row.isMissing()) return error(NONE);
    People people = now.people;
    int i = 0;
    while (i < row.size && i < people.size && row.numbers[i] == people.water[i]) i++;
    return i == row.size && i == people.size ? -1 : i;
  }

  public int image() {
    image.copyFrom(now);
    images++;
    return images;
  }

  public int restore() {
    if (images == 0) return error(NONE);
    now.copyFrom(image);
    return now.people.day;
  }

  public int tell(int v) {
    if (now.waiting.size >= MOST_WAITING) return error(FULL);
    now.waiting.add(v);
    return now.waiting.size;
  }

  public int check() {
    int wrong = thought.firstUnlike(now.waiting);
    now.waiting.size = 0;
    return wrong < 0 ? 0 : 1 + wrong;
  }

  public int count(int what) {
    if (!isWithin(what, 9)) return error(BEYOND);
    switch (what) {
      case 0: return now.people.size;
      case 1: return now.people.day;
      case 2: return now.people.waterInAll();
      case 3: return now.people.thirstInAll();
      case 4: return now.people.debts.inAll();
      case 5: return now.people.givenSet();
      case 6: return now.tape.size;
      case 7: return now.waiting.size;
      case 8: return voices.bodies.size;
      default: return now.z;
    }
  }

  public int told(int k) {
    if (k < BEYOND || k > UNLIKE_KIND) return error(BEYOND);
    return told[k];
  }

  private int error(int k) {
    told[k]++;
    return LOW - k;
  }

  private boolean isPerson(int person) {
    return person >= 0 && person < now.people.size;
  }

  private boolean isPair(int one, int other) {
    return isPerson(one) && isPerson(other) && one != other;
  }

  private static boolean isSheet(int sheet) {
    return isWithin(sheet, SHEETS - 1);
  }

  private static boolean isKindAndM(int km) {
    return isWithin(km, 10 * Kinds.TWIN + 9);
  }

  private static boolean isWithin(int v, int most) {
    return v >= 0 && v <= most;
  }

  /** The KINDS by their numbers: which stands under which, FILLS and DRINKS. */
  private static final class Kinds {
    static final int ONE = 0;
    static final int SAINT = 1;
    static final int FARMER = 2;
    static final int STRANGER = 3;
    static final int BRIDE = 4;
    static final int BOY = 5;
    static final int TWIN = 6;

    private static final int[] ABOVE = {-1, ONE, ONE, ONE, SAINT, FARMER, STRANGER};
    private static final int ONE_FILLS = 3;
    private static final int ONE_DRINKS = 2;

    static boolean isUnder(int kind, int other) {
      int at = kind;
      for (int i = 0; i < ABOVE.length && at >= 0 && at < ABOVE.length; i++) {
        if (at == other) return true;
        at = ABOVE[at];
      }
      return false;
    }

    static int fills(int kind, int m) {
      switch (kind) {
        case SAINT: return ONE_FILLS + m % 3;
        case FARMER: return 2 * ONE_FILLS;
        case STRANGER: return 9;
        case BRIDE: return ONE_FILLS + m % 3 + 5;
        case BOY: return 2 * ONE_FILLS / 2;
        case TWIN: return 9 - m;
        default: return ONE_FILLS;
      }
    }

    static int drinks(int kind) {
      switch (kind) {
        case SAINT:
        case BRIDE: return 1;
        case FARMER: return ONE_DRINKS + 1;
        case BOY: return ONE_DRINKS + 1 - 1;
        default: return ONE_DRINKS;
      }
    }
  }

  /** A row of numbers that grows up to a bound. */
  private static final class Row {
    final int[] numbers;
    int size = 0;

    Row(int most) {
      numbers = new int[Math.max(most, 0)];
    }

    void add(int v) {
      if (size < 0 || size >= numbers.length) return;
      numbers[size] = v;
      size++;
    }

    void copyFrom(Row other) {
      size = 0;
      for (int i = 0; i < other.size && i < other.numbers.length; i++) add(other.numbers[i]);
    }
  }

  /** What a USE gives: a TEXT, kept with each sign behind what it joins, so that a stack does. */
  private static final class Law {
    static final int NUMBER = '0';
    static final int NAME = 'n';
    private static final String NAMES_GIVES = "tdw";
    private static final String NAMES_LENDS = "wom";

    final int use;
    private final int[] signs = new int[MOST_BYTES];
    private final int[] values = new int[MOST_BYTES];
    private final int[] stack = new int[MOST_BYTES];
    private int size = 0;

    Law(int use) {
      this.use = use;
    }

    String names() {
      return use == GIVES ? NAMES_GIVES : NAMES_LENDS;
    }

    void clear() {
      size = 0;
    }

    void add(int sign, int value) {
      if (size >= signs.length) return;
      signs[size] = sign;
      values[size] = value;
      size++;
    }

    void copyFrom(Law other) {
      System.arraycopy(other.signs, 0, signs, 0, signs.length);
      System.arraycopy(other.values, 0, values, 0, values.length);
      size = other.size;
    }

    int gives(int a, int b, int c) {
      int value = size > 0 ? workedOut(a, b, c) : use == GIVES ? a % 2 : a > 3 ? 1 : 0;
      return Math.max(0, Math.min(1, value));
    }

    private int workedOut(int a, int b, int c) {
      int top = 0;
      for (int i = 0; i < size; i++) {
        int sign = signs[i];
        if (sign == NUMBER || sign == NAME) {
          if (top >= stack.length) return 0;
          int name = values[i];
          stack[top] = sign == NUMBER ? name : name == 0 ? a : name == 1 ? b : c;
          top++;
        } else if (sign == '!') {
          if (top < 1) return 0;
          stack[top - 1] = stack[top - 1] == 0 ? 1 : 0;
        } else {
          if (top < 2) return 0;
          top--;
          stack[top - 1] = joined(sign, stack[top - 1], stack[top]);
        }
      }
      return top < 1 ? 0 : stack[0];
    }

    private static int joined(int sign, int left, int right) {
      switch (sign) {
        case '|': return left != 0 || right != 0 ? 1 : 0;
        case '&': return left != 0 && right != 0 ? 1 : 0;
        case '<': return left < right ? 1 : 0;
        case '=': return left == right ? 1 : 0;
        case '>': return left > right ? 1 : 0;
        case '+': return left + right;
        case '-': return left - right;
        case '*': return left * right;
        case '/': return right == 0 ? 0 : left / right;
        default: return right == 0 ? 0 : left % right;
      }
    }
  }

  /** Reads a TEXT from THE TAPE; what is read only comes to the law when there is no FAULT. */
  private static final class Reader {
    private static final int END = -1;
    private static final int NO_FAULT = -1;
    private static final int MOST_OPEN = 5;
    private static final int MOST_DIGITS = 4;
    private static final int NO_LEVEL = -1;
    // The grammar's lines T, A, B, S, P, from the sign that binds least on; behind them stands Q.
    private static final int LEVEL_T = 0;
    private static final int LEVEL_A = 1;
    private static final int LEVEL_B = 2;
    private static final int LEVEL_S = 3;
    private static final int LEVEL_P = 4;
    private static final int LEVEL_Q = 5;

    private final Law draft = new Law(GIVES);
    private final Row bytes = new Row(MOST_BYTES);
    private String names = "";
    private int at = 0;
    private int fault = NO_FAULT;

    int read(Row tape, Law law) {
      draft.clear();
      bytes.copyFrom(tape);
      names = law.names();
      at = 0;
      fault = NO_FAULT;
      readLevel(LEVEL_T, 0);
      if (fault == NO_FAULT && next() != END) fault = at;
      if (fault == NO_FAULT) law.copyFrom(draft);
      return fault;
    }

    private int next() {
      return at >= 0 && at < bytes.size ? bytes.numbers[at] : END;
    }

    /** open: how many of ! and ( are open, which bounds how deep the levels stand in one another. */
    private void readLevel(int level, int open) {
      if (level >= LEVEL_Q) {
        readLast(open);
        return;
      }
      readLevel(level + 1, open);
      for (int i = 0; i < MOST_BYTES && fault == NO_FAULT && levelOf(next()) == level; i++) {
        int sign = next();
        at++;
        readLevel(level + 1, open);
        draft.add(sign, 0);
        // B alone has no second sign: a < b < c is no TEXT.
        if (level == LEVEL_B) return;
      }
    }

    private void readLast(int open) {
      int sign = next();
      if (isDigit(sign)) {
        readNumber();
      } else if (sign >= 0 && names.indexOf((char) sign) >= 0) {
        draft.add(Law.NAME, names.indexOf((char) sign));
        at++;
      } else if (sign == '!' && open < MOST_OPEN) {
        at++;
        readLast(open + 1);
        draft.add('!', 0);
      } else if (sign == '(' && open < MOST_OPEN) {
        at++;
        readLevel(LEVEL_T, open + 1);
        readClosing();
      } else {
        fault = at;
      }
    }

    private void readClosing() {
      if (fault != NO_FAULT) return;
      if (next() == ')') at++;
      else fault = at;
    }

    private void readNumber() {
      int value = 0;
      for (int i = 0; i < MOST_DIGITS && isDigit(next()); i++) {
        value = 10 * value + next() - '0';
        at++;
      }
      draft.add(Law.NUMBER, value);
    }

    private static boolean isDigit(int sign) {
      return sign >= '0' && sign <= '9';
    }

    private static int levelOf(int sign) {
      switch (sign) {
        case '|': return LEVEL_T;
        case '&': return LEVEL_A;
        case '<':
        case '=':
        case '>': return LEVEL_B;
        case '+':
        case '-': return LEVEL_S;
        case '*':
        case '/':
        case '%': return LEVEL_P;
        default: return NO_LEVEL;
      }
    }
  }

  /** What each of PEOPLE OWES each other one. */
  private static final class Debts {
    final int[][] owed = new int[MOST_PEOPLE][MOST_PEOPLE];

    void copyFrom(Debts other) {
      for (int one = 0; one < MOST_PEOPLE; one++) {
        System.arraycopy(other.owed[one], 0, owed[one], 0, MOST_PEOPLE);
      }
    }

    void addOne(int one, int other) {
      owed[one][other] = Math.min(MOST_DEBT, owed[one][other] + 1);
    }

    int inAll() {
      int sum = 0;
      for (int one = 0; one < MOST_PEOPLE; one++) {
        for (int other = 0; other < MOST_PEOPLE; other++) sum += owed[one][other];
      }
      return sum;
    }

    int netOf(int one) {
      int net = 0;
      for (int other = 0; other < MOST_PEOPLE; other++) net += owed[other][one] - owed[one][other];
      return net;
    }

    /** One round does: striking makes no debt more, so no ring comes up behind the place looked at. */
    int strikeRings() {
      int struck = 0;
      for (int a = 0; a < MOST_PEOPLE; a++) {
        for (int b = a + 1; b < MOST_PEOPLE; b++) struck += strikeTwo(a, b);
      }
      for (int a = 0; a < MOST_PEOPLE; a++) {
        for (int b = a + 1; b < MOST_PEOPLE; b++) {
          for (int c = a + 1; c < MOST_PEOPLE; c++) {
            if (c != b) struck += strikeThree(a, b, c);
          }
        }
      }
      return struck;
    }

    private int strikeTwo(int a, int b) {
      int least = Math.min(owed[a][b], owed[b][a]);
      owed[a][b] -= least;
      owed[b][a] -= least;
      return least > 0 ? 1 : 0;
    }

    private int strikeThree(int a, int b, int c) {
      int least = Math.min(owed[a][b], Math.min(owed[b][c], owed[c][a]));
      owed[a][b] -= least;
      owed[b][c] -= least;
      owed[c][a] -= least;
      return least > 0 ? 1 : 0;
    }
  }

  /** PEOPLE, their debts and DAY, under two laws that others may share. */
  private static final class People {
    private final Law gives;
    private final Law lends;
    final int[] kind = new int[MOST_PEOPLE];
    final int[] m = new int[MOST_PEOPLE];
    final int[] traits = new int[MOST_PEOPLE];
    final int[] water = new int[MOST_PEOPLE];
    final int[] thirst = new int[MOST_PEOPLE];
    final Debts debts = new Debts();
    int size = 0;
    int day = 0;

    People(Law gives, Law lends) {
      this.gives = gives;
      this.lends = lends;
    }

    void copyFrom(People other) {
      System.arraycopy(other.kind, 0, kind, 0, MOST_PEOPLE);
      System.arraycopy(other.m, 0, m, 0, MOST_PEOPLE);
      System.arraycopy(other.traits, 0, traits, 0, MOST_PEOPLE);
      System.arraycopy(other.water, 0, water, 0, MOST_PEOPLE);
      System.arraycopy(other.thirst, 0, thirst, 0, MOST_PEOPLE);
      debts.copyFrom(other.debts);
      size = other.size;
      day = other.day;
    }

    /** Nobody's places hold zeros (an image brings them back), so WATER, THIRST, debts are as at first. */
    int join(int km, int newTraits) {
      int p = size;
      if (p < 0 || p >= MOST_PEOPLE) return NOBODY;
      setKindAndM(p, km);
      traits[p] = newTraits;
      size++;
      return p;
    }

    void setKindAndM(int p, int km) {
      kind[p] = km / 10;
      m[p] = km % 10;
    }

    int fillsOf(int p) {
      return Kinds.fills(kind[p], m[p]);
    }

    int drinksOf(int p) {
      return Kinds.drinks(kind[p]);
    }

    boolean isGiven(int p) {
      return gives.gives(traits[p], day % WEEK, water[p]) != 0;
    }

    int givenSet() {
      int set = 0;
      for (int p = 0; p < size; p++) {
        if (isGiven(p)) set |= 1 << p;
      }
      return set;
    }

    int waterInAll() {
      int sum = 0;
      for (int p = 0; p < size; p++) sum += water[p];
      return sum;
    }

    int thirstInAll() {
      int sum = 0;
      for (int p = 0; p < size; p++) sum += thirst[p];
      return sum;
    }

    /** withheld: the one who doesn't LEND, whatever the TEXT gives; NOBODY else. */
    void passDays(int n, int withheld) {
      for (int i = 0; i < n; i++) {
        for (int p = 0; p < size; p++) goToWell(p, withheld);
        for (int p = 0; p < size; p++) drink(p);
        day++;
      }
    }

    private void goToWell(int p, int withheld) {
      if (isGiven(p)) {
        water[p] = Math.min(MOST_WATER, water[p] + fillsOf(p));
        return;
      }
      int lender = lenderFor(p, withheld);
      if (lender < 0) return;
      water[lender]--;
      water[p] = Math.min(MOST_WATER, water[p] + 1);
      debts.addOne(p, lender);
    }

    private int lenderFor(int p, int withheld) {
      int best = NOBODY;
      for (int other = 0; other < size; other++) {
        if (other == p || other == withheld || water[other] == 0) continue;
        if (best >= 0 && water[other] <= water[best]) continue;
        if (lends.gives(water[other], debts.owed[p][other], m[other]) != 0) best = other;
      }
      return best;
    }

    private void drink(int p) {
      int lacks = drinksOf(p) - water[p];
      if (lacks > 0) {
        water[p] = 0;
        thirst[p] = Math.min(MOST_THIRST, thirst[p] + lacks);
      } else {
        water[p] = -lacks;
        thirst[p] = 0;
      }
    }

    int leastThirsting(int x) {
      for (int p = 0; p < size; p++) {
        if (thirst[p] >= x) return p;
      }
      return NOBODY;
    }

    /** On how many of the next 7 DAYS; these have each rest by 7 once, so DAY doesn't matter. */
    int daysGiven(int p, int withTraits) {
      int given = 0;
      for (int rest = 0; rest < WEEK; rest++) given += gives.gives(withTraits, rest, water[p]);
      return given;
    }

    int bestTraits(int p) {
      int best = 0;
      int most = daysGiven(p, 0);
      for (int t = 1; t <= MOST_TRAITS; t++) {
        int given = daysGiven(p, t);
        if (given > most) {
          best = t;
          most = given;
        }
      }
      return best;
    }

    int leastCover() {
      int given = givenSet();
      int needed = 0;
      for (int p = 0; p < size; p++) needed += drinksOf(p);
      int best = NOBODY;
      for (int set = 0; set < 1 << MOST_PEOPLE; set++) {
        if ((set & ~given) != 0 || fillsOfSet(set) < needed) continue;
        if (best < 0 || Integer.bitCount(set) < Integer.bitCount(best)) best = set;
      }
      return best;
    }

    private int fillsOfSet(int set) {
      int sum = 0;
      for (int p = 0; p < size; p++) {
        if ((set >> p & 1) != 0) sum += fillsOf(p);
      }
      return sum;
    }
  }

  /** All that an IMAGE keeps. */
  private static final class Well {
    private final Law gives = new Law(GIVES);
    private final Law lends = new Law(LENDS);
    final People people = new People(gives, lends);
    final Row tape = new Row(MOST_BYTES);
    final Row waiting = new Row(MOST_WAITING);
    int z = 1;

    Law lawOf(int use) {
      return use == GIVES ? gives : lends;
    }

    People peopleForThought() {
      return new People(gives, lends);
    }

    void copyFrom(Well other) {
      gives.copyFrom(other.gives);
      lends.copyFrom(other.lends);
      people.copyFrom(other.people);
      tape.copyFrom(other.tape);
      waiting.copyFrom(other.waiting);
      z = other.z;
    }

    void drawTraits() {
      for (int p = 0; p < people.size; p++) {
        int drawn = draw();
        if (drawn % 8 == 0) people.traits[p] ^= 1 << drawn / 8 % 4;
      }
    }

    private int draw() {
      z = z * 1103515245 + 12345;
      return z >>> 8;
    }
  }

  /** DAYS that only are thought: PEOPLE are copied, and the copies go on. */
  private static final class Thought {
    private final People real;
    private final People ahead;
    private final People without;

    Thought(Well well) {
      real = well.people;
      ahead = well.peopleForThought();
      without = well.peopleForThought();
    }

    People behind(int n) {
      ahead.copyFrom(real);
      ahead.passDays(n, NOBODY);
      return ahead;
    }

    int daysToThirst(int x) {
      ahead.copyFrom(real);
      for (int n = 0; n <= MOST_DAYS; n++) {
        if (ahead.leastThirsting(x) >= 0) return n;
        ahead.passDays(1, NOBODY);
      }
      return -1;
    }

    int daysToDry() {
      ahead.copyFrom(real);
      for (int n = 0; n <= MOST_DAYS; n++) {
        if (ahead.givenSet() == 0) return n;
        ahead.passDays(1, NOBODY);
      }
      return -1;
    }

    int keptBy(int person, int n) {
      ahead.copyFrom(real);
      ahead.passDays(n, NOBODY);
      without.copyFrom(real);
      without.passDays(n, person);
      int set = 0;
      for (int p = 0; p < real.size; p++) {
        if (p != person && without.thirst[p] > ahead.thirst[p]) set |= 1 << p;
      }
      return set;
    }

    int firstUnlike(Row waters) {
      ahead.copyFrom(real);
      for (int i = 0; i < waters.size; i++) {
        ahead.passDays(1, NOBODY);
        if (ahead.waterInAll() != waters.numbers[i]) return i;
      }
      return -1;
    }
  }

  /** RULES: those that fit who was given, the least first. */
  private static final class Rules {
    private static final int MASKS = 16;

    final int[] fitting = new int[MASKS * MASKS];
    int size = 0;

    void find(People people, Sheet sheet) {
      size = 0;
      for (int rule = 0; rule < fitting.length; rule++) {
        boolean isRule = (rule % MASKS & ~(rule / MASKS)) == 0;
        if (!isRule || !fits(rule, people, sheet)) continue;
        fitting[size] = rule;
        size++;
      }
    }

    private static boolean fits(int rule, People people, Sheet sheet) {
      for (int p = 0; p < people.size && p < sheet.size; p++) {
        int was = sheet.numbers[p];
        boolean given = givesTo(rule, people.traits[p]);
        if (was == 1 && !given || was == 0 && given) return false;
      }
      return true;
    }

    private static boolean givesTo(int rule, int traits) {
      return (traits & rule / MASKS) == rule % MASKS;
    }

    int mostEvenTraits() {
      int best = 0;
      int least = unevenness(0);
      for (int t = 1; t <= MOST_TRAITS; t++) {
        int uneven = unevenness(t);
        if (uneven < least) {
          best = t;
          least = uneven;
        }
      }
      return best;
    }

    private int unevenness(int traits) {
      int more = 0;
      for (int i = 0; i < size; i++) more += givesTo(fitting[i], traits) ? 1 : -1;
      return Math.abs(more);
    }
  }

  /** VOICES; from is the KIND from which on, upward, the BODY is looked for. */
  private static final class Voices {
    static final int TELLS = 3;

    final Row bodies = new Row(MOST_BODIES);
    private int kind = 0;
    private int m = 0;
    private int n = 0;

    int said(People people, int person, int act, int x) {
      bodies.size = 0;
      kind = people.kind[person];
      m = people.m[person];
      n = person;
      switch (act) {
        case 0: return lets(kind, x);
        case 1: return fills(kind, x);
        case 2: return lends(kind, x);
        default: return tells(kind, x);
      }
    }

    private int lets(int from, int x) {
      switch (from) {
        case Kinds.SAINT:
        case Kinds.BRIDE:
          bodies.add(20);
          return lets(Kinds.ONE, x) * 3;
        default:
          bodies.add(10);
          return x + n;
      }
    }

    private int fills(int from, int x) {
      switch (from) {
        case Kinds.BOY:
          bodies.add(60);
          return fills(Kinds.FARMER, x + 1);
        case Kinds.FARMER:
          bodies.add(30);
          return fills(Kinds.ONE, x) - lends(kind, 1);
        default:
          bodies.add(11);
          return lets(kind, x) * 2;
      }
    }

    private int lends(int from, int x) {
      switch (from) {
        case Kinds.TWIN:
          bodies.add(70);
          return lends(Kinds.STRANGER, x) ^ n;
        case Kinds.STRANGER:
          bodies.add(40);
          return -lends(Kinds.ONE, x);
        default:
          bodies.add(12);
          return x - m;
      }
    }

    private int tells(int from, int x) {
      switch (from) {
        case Kinds.TWIN:
          bodies.add(71);
          return fills(kind, x) - tells(Kinds.STRANGER, x);
        case Kinds.BRIDE:
          bodies.add(50);
          return tells(Kinds.SAINT, x) - lets(kind, 2);
        default:
          bodies.add(13);
          return fills(kind, x) ^ lends(kind, x);
      }
    }
  }

  /** A SHEET; it is missing while its numbers have no bits. */
  private static final class Sheet {
    final int[] numbers = new int[MOST_NUMBERS];
    int bits = 0;
    int size = 0;

    boolean isMissing() {
      return bits == 0;
    }

    void renew(int newBits, int newSize) {
      bits = newBits;
      size = newSize;
      Arrays.fill(numbers, 0);
    }

    void set(int i, int v) {
      numbers[i] = bits == 8 ? v & 255 : bits == 16 ? v & 65535 : v;
    }

    boolean holds(int i, int n) {
      return i >= 0 && n >= 0 && i <= size && n <= size - i;
    }
  }
}
