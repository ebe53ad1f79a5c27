import java.lang.reflect.Constructor;
import java.lang.reflect.Field;
import java.lang.reflect.Method;
import java.lang.reflect.Modifier;
import java.util.Arrays;
import java.util.Set;
import java.util.TreeSet;

/** The public face, and nothing beside it that can be seen from outside. */
public final class FaceTest {
  private static final String[] DUE = {
    "begin(int) IllegalArgumentException IllegalStateException void",
    "carry(int int int) IllegalArgumentException IllegalStateException int",
    "feed(int long) IllegalArgumentException IllegalStateException int",
    "look(int int) IllegalArgumentException NoSuchElementException int",
    "secret(int int int int) IllegalArgumentException NoSuchElementException int",
    "sent(int int int) IllegalArgumentException NoSuchElementException int",
    "take(int int) IllegalArgumentException IllegalStateException int",
    "tell(int int) IllegalArgumentException IllegalStateException void",
    "theirs(int int) IllegalArgumentException NoSuchElementException int",
    "wipe() int",
  };

  public static void main(String[] args) {
    methods();
    constructorAndClass();
    fieldsAndClassesInside();
    Check.close();
  }

  private static void methods() {
    Check.sentence("The public face", "public final class GreetDesk");
    Set<String> names = new TreeSet<>();
    Set<String> seen = new TreeSet<>();
    for (Method method : GreetDesk.class.getDeclaredMethods()) {
      if (!Modifier.isPrivate(method.getModifiers())) {
        seen.add(written(method));
        names.add(method.getName());
        Check.same(method + " is public", Modifier.isPublic(method.getModifiers()) ? 1 : 0, 1);
      }
    }
    Check.sameText("the face is", seen.toString(), new TreeSet<>(Arrays.asList(DUE)).toString());
    for (Method method : GreetDesk.class.getDeclaredMethods()) {
      if (Modifier.isPrivate(method.getModifiers())) {
        Check.same(method + " bears a name of the face", names.contains(method.getName()) ? 1 : 0, 0);
      }
    }
  }

  private static void constructorAndClass() {
    Check.sentence("The public face", "public GreetDesk()");
    Check.same("public and final", GreetDesk.class.getModifiers(), Modifier.PUBLIC | Modifier.FINAL);
    Constructor<?>[] makers = GreetDesk.class.getDeclaredConstructors();
    Check.same("constructors", makers.length, 1);
    Check.same("its modifiers", makers[0].getModifiers(), Modifier.PUBLIC);
    Check.same("its parameters", makers[0].getParameterCount(), 0);
  }

  private static void fieldsAndClassesInside() {
    Check.sentence("LANGUAGE.md, rules 1 and 5", "no other public, protected or package-visible member");
    Check.same("desks can be made", new GreetDesk().wipe(), 0);
    for (Field field : GreetDesk.class.getDeclaredFields()) {
      int modifiers = field.getModifiers();
      Check.same(field + " is private", Modifier.isPrivate(modifiers) ? 1 : 0, 1);
      Check.same(field + " is final, if it is static",
          !Modifier.isStatic(modifiers) || Modifier.isFinal(modifiers) ? 1 : 0, 1);
    }
    for (Class<?> inside : GreetDesk.class.getDeclaredClasses()) {
      int seen = inside.getModifiers() & (Modifier.PUBLIC | Modifier.PROTECTED);
      Check.same(inside + " is private or package-visible", seen, 0);
    }
  }

  private static String written(Method method) {
    StringBuilder text = new StringBuilder(method.getName()).append('(');
    for (Class<?> type : method.getParameterTypes()) {
      text.append(text.charAt(text.length() - 1) == '(' ? "" : " ").append(type.getSimpleName());
    }
    text.append(')');
    for (Class<?> type : method.getExceptionTypes()) {
      text.append(' ').append(type.getSimpleName());
    }
    return text.append(' ').append(method.getReturnType().getSimpleName()).toString();
  }
}
