import java.io.IOException;
import java.lang.reflect.Constructor;
import java.lang.reflect.Field;
import java.lang.reflect.Member;
import java.lang.reflect.Method;
import java.lang.reflect.Modifier;
import java.nio.charset.StandardCharsets;
import java.nio.file.Files;
import java.nio.file.Paths;
import java.util.TreeSet;
import java.util.regex.Matcher;
import java.util.regex.Pattern;

/** The face is the document's, and nothing beside it can be seen from outside; run from the checkout's root. */
public final class FaceTest {
  private static final String[] FACE = {
    "person(int,int)", "ofPerson(int,int)", "change(int,int,int)", "owe(int,int,int)", "owes(int,int)",
    "become(int,int)", "as(int,int)", "feed(long,int)", "text(int)", "law(int,int,int,int)", "days(int)",
    "loose(int)", "strike()", "then(int,int,int)", "first(int,int)", "rules(int,int)", "turn(int,int)",
    "cover()", "kept(int,int)", "net(int)", "struck(int)", "odds(int,int)", "dry()", "seed(int)",
    "voice(int,int,int)", "trace(int)", "sheet(int,int,int)", "put(int,int,int)",
    "move(int,int,int,int,int)", "traits(int)", "judge(int)", "image()", "restore()", "tell(int)",
    "check()", "count(int)", "told(int)",
  };

  public static void main(String[] args) throws IOException {
    documentAndSource();
    Class<?> face = WellRefuses.class;
    Due.is("modifiers", face.getModifiers(), Modifier.PUBLIC | Modifier.FINAL);
    TreeSet<String> due = new TreeSet<>();
    TreeSet<String> names = new TreeSet<>();
    for (String method : FACE) {
      due.add(method);
      names.add(method.substring(0, method.indexOf('(')));
    }
    TreeSet<String> found = new TreeSet<>();
    for (Method method : face.getDeclaredMethods()) {
      if (Modifier.isPrivate(method.getModifiers())) {
        Due.isTrue(method + " has a name of its own", !names.contains(method.getName()));
      } else {
        Due.isTrue(method + " answers an int", method.getReturnType() == int.class);
        Due.is("modifiers of " + method, method.getModifiers(), Modifier.PUBLIC);
        found.add(signature(method));
      }
    }
    Due.isTrue("methods " + found, found.equals(due));
    for (Field field : face.getDeclaredFields()) Due.isTrue(field + " is private", isPrivate(field));
    checkFields(face);
    Constructor<?>[] made = face.getDeclaredConstructors();
    Due.is("constructors", made.length, 1);
    Due.is("its modifiers", made[0].getModifiers(), Modifier.PUBLIC);
    Due.is("its parameters", made[0].getParameterCount(), 0);
    for (Class<?> inside : face.getDeclaredClasses()) checkInside(inside, names);
    Due.done();
  }

  /** The document's block names just these, and the source has its parts in the document's order. */
  private static void documentAndSource() throws IOException {
    String document = textOf("../shared/DOC.md");
    Matcher call = Pattern.compile("\n    public int (\\w+)\\(([^)]*)\\);").matcher(document);
    int found = 0;
    while (call.find()) {
      String types = call.group(2).replaceAll(" \\w+(, )?", ",").replaceAll(",$", "");
      String told = call.group(1) + "(" + types + ")";
      Due.isTrue("the document's " + told, found < FACE.length && told.equals(FACE[found]));
      found++;
    }
    Due.is("the document's calls", found, FACE.length);
    String source = textOf("src/main/java/WellRefuses.java");
    int place = 0;
    Matcher part = Pattern.compile("Ahead of the calls ([^\n]*) the interface says: ([^\n]*)\\.\n").matcher(document);
    while (part.find()) {
      int next = source.indexOf("\n  // " + part.group(2) + "\n", place);
      Due.isTrue("the source says: " + part.group(2), next >= 0);
      place = Math.max(place, next);
      for (String name : part.group(1).replace("`", "").split(", ")) {
        next = source.indexOf("\n  public int " + name + "(", place);
        Due.isTrue(name + " stands behind it, in order", next >= 0);
        place = Math.max(place, next);
      }
    }
  }

  private static String textOf(String file) throws IOException {
    return new String(Files.readAllBytes(Paths.get(file)), StandardCharsets.UTF_8);
  }

  private static void checkInside(Class<?> inside, TreeSet<String> names) {
    Due.isTrue(inside + " is static", Modifier.isStatic(inside.getModifiers()));
    Due.isTrue(inside + " is not public", !Modifier.isPublic(inside.getModifiers()));
    for (Method method : inside.getDeclaredMethods()) {
      Due.isTrue(method + " has a name of its own", !names.contains(method.getName()));
    }
    checkFields(inside);
  }

  private static void checkFields(Class<?> any) {
    int own = 0;
    for (Field field : any.getDeclaredFields()) {
      boolean isStatic = Modifier.isStatic(field.getModifiers());
      if (!isStatic) own++;
      Due.isTrue(field + " is no static state", !isStatic || Modifier.isFinal(field.getModifiers()));
    }
    Due.isTrue(any + " has some twenty fields", own <= 20);
  }

  private static boolean isPrivate(Member member) {
    return Modifier.isPrivate(member.getModifiers());
  }

  private static String signature(Method method) {
    StringBuilder text = new StringBuilder(method.getName()).append('(');
    Class<?>[] types = method.getParameterTypes();
    for (int i = 0; i < types.length; i++) text.append(i == 0 ? "" : ",").append(types[i].getName());
    return text.append(')').toString();
  }
}
