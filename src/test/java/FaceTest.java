import java.lang.reflect.Constructor;
import java.lang.reflect.Field;
import java.lang.reflect.Member;
import java.lang.reflect.Method;
import java.lang.reflect.Modifier;
import java.util.TreeSet;

/** The face is the document's, and nothing beside it can be seen from outside. */
public final class FaceTest {
  private static final String[] FACE = {
    "person(int,int)", "ofPerson(int,int)", "change(int,int,int)", "owe(int,int,int)", "owes(int,int)",
    "become(int,int)", "as(int,int)", "feed(long,int)", "text(int)", "law(int,int,int,int)", "days(int)",
    "loose(int)", "strike()", "then(int,int,int)", "first(int,int)", "rules(int,int)", "turn(int,int)",
    "cover()", "kept(int,int)", "net(int)", "struck(int)", "odds(int,int)", "dry()", "seed(int)",
    "voice(int,int,int)", "trace(int)", "sheet(int,int,int)", "put(int,int,int)",
    "move(int,int,int,int,int)", "traits(int)", "judge(int)", "image()", "restore()", "tell(int)",
    "check()", "count(int)", "told(int)",
  };

  public static void main(String[] args) {
    Class<?> face = WellRefuses.class;
    Due.is("modifiers", face.getModifiers(), Modifier.PUBLIC | Modifier.FINAL);
    TreeSet<String> due = new TreeSet<>();
    TreeSet<String> names = new TreeSet<>();
    for (String method : FACE) {
      due.add(method);
      names.add(method.substring(0, method.indexOf('(')));
    }
    TreeSet<String> found = new TreeSet<>();
    for (Method method : face.getDeclaredMethods()) {
      if (Modifier.isPrivate(method.getModifiers())) {
        Due.isTrue(method + " has a name of its own", !names.contains(method.getName()));
      } else {
        Due.isTrue(method + " answers an int", method.getReturnType() == int.class);
        Due.is("modifiers of " + method, method.getModifiers(), Modifier.PUBLIC);
        found.add(signature(method));
      }
    }
    Due.isTrue("methods " + found, found.equals(due));
    for (Field field : face.getDeclaredFields()) Due.isTrue(field + " is private", isPrivate(field));
    checkFields(face);
    Constructor<?>[] made = face.getDeclaredConstructors();
    Due.is("constructors", made.length, 1);
    Due.is("its modifiers", made[0].getModifiers(), Modifier.PUBLIC);
    Due.is("its parameters", made[0].getParameterCount(), 0);
    for (Class<?> inside : face.getDeclaredClasses()) checkInside(inside, names);
    Due.done();
  }

  private static void checkInside(Class<?> inside, TreeSet<String> names) {
    Due.isTrue(inside + " is static", Modifier.isStatic(inside.getModifiers()));
    Due.isTrue(inside + " is not public", !Modifier.isPublic(inside.getModifiers()));
    for (Method method : inside.getDeclaredMethods()) {
      Due.isTrue(method + " has a name of its own", !names.contains(method.getName()));
    }
    checkFields(inside);
  }

  private static void checkFields(Class<?> any) {
    int own = 0;
    for (Field field : any.getDeclaredFields()) {
      boolean isStatic = Modifier.isStatic(field.getModifiers());
      if (!isStatic) own++;
      Due.isTrue(field + " is no static state", !isStatic || Modifier.isFinal(field.getModifiers()));
    }
    Due.isTrue(any + " has some twenty fields", own <= 20);
  }

  private static boolean isPrivate(Member member) {
    return Modifier.isPrivate(member.getModifiers());
  }

  private static String signature(Method method) {
    StringBuilder text = new StringBuilder(method.getName()).append('(');
    Class<?>[] types = method.getParameterTypes();
    for (int i = 0; i < types.length; i++) text.append(i == 0 ? "" : ",").append(types[i].getName());
    return text.append(')').toString();
  }
}
