import java.lang.reflect.Constructor;
import java.lang.reflect.Field;
import java.lang.reflect.Method;
import java.lang.reflect.Modifier;
import java.util.Arrays;
import java.util.Set;
import java.util.TreeSet;
import java.util.stream.Collectors;

/** Rules 1 and 5 of the language: the class has the document's face and shows nothing else. */
final class FaceTest {
  /** I IndexOutOfBoundsException, A IllegalArgumentException, S IllegalStateException, in the document's order. */
  private static final Set<String> FACE = new TreeSet<>(Set.of(
      "int begin(int) A", "int inverse(int) A", "int root(int) A", "int count(int) I",
      "int point(int,int,int) IAS", "int make(int,int,int,int) AIS", "int move(int,int,int) IAS",
      "int object(int,int) I", "int number(int,int) IS", "int places(int) I", "int square(int,int) IS",
      "int claim(int,int,int,int,int) AIS", "int holds(int) I", "int everywhere(int,int,int) IS",
      "int locus(int,int,int) IS", "double truth() ", "long digest() "));

  public static void main(String[] args) {
    Class<?> c = PrimePlane.class;
    check("public and final", Modifier.isPublic(c.getModifiers()) && Modifier.isFinal(c.getModifiers()));
    check("of Object alone", c.getSuperclass() == Object.class && c.getInterfaces().length == 0);
    Constructor<?>[] constructors = c.getDeclaredConstructors();
    check("one public constructor", constructors.length == 1 && Modifier.isPublic(constructors[0].getModifiers())
        && constructors[0].getParameterCount() == 0);
    methods(c);
    fields(c);
    for (Class<?> inside : c.getDeclaredClasses()) {
      check(inside + " is static and not public",
          Modifier.isStatic(inside.getModifiers()) && !Modifier.isPublic(inside.getModifiers()));
      fields(inside);
    }
    Due.end();
  }

  private static void methods(Class<?> c) {
    Set<String> shown = new TreeSet<>();
    Set<String> names = new TreeSet<>();
    for (Method m : c.getDeclaredMethods()) {
      if (Modifier.isPublic(m.getModifiers())) {
        shown.add(m.getReturnType() + " " + m.getName() + Arrays.stream(m.getParameterTypes())
            .map(Class::getName).collect(Collectors.joining(",", "(", ") ")) + thrown(m));
        names.add(m.getName());
      }
    }
    check("the face is " + shown, shown.equals(FACE));
    for (Method m : c.getDeclaredMethods()) {
      check(m + " is public or private", (m.getModifiers() & (Modifier.PUBLIC | Modifier.PRIVATE)) != 0);
      check(m + " bears no public name", Modifier.isPublic(m.getModifiers()) || !names.contains(m.getName()));
    }
  }

  private static String thrown(Method m) {
    StringBuilder told = new StringBuilder();
    for (Class<?> e : m.getExceptionTypes()) {
      told.append(e == IndexOutOfBoundsException.class ? "I" : e == IllegalArgumentException.class ? "A"
          : e == IllegalStateException.class ? "S" : e.getName());
    }
    return told.toString();
  }

  private static void fields(Class<?> c) {
    for (Field f : c.getDeclaredFields()) {
      check(f + " is no static that changes",
          !Modifier.isStatic(f.getModifiers()) || Modifier.isFinal(f.getModifiers()));
      check(f + " is private, if outside",
          c != PrimePlane.class || Modifier.isPrivate(f.getModifiers()));
    }
  }

  private static void check(String name, boolean right) {
    Due.is(name, 1, () -> right ? 1 : 0);
  }
}
