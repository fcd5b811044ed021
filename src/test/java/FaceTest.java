import java.lang.reflect.Constructor;
import java.lang.reflect.Field;
import java.lang.reflect.Method;
import java.lang.reflect.Modifier;
import java.util.Set;
import java.util.TreeSet;

/** The face is the document's, with its throws clauses, and nothing else is to be seen. */
public final class FaceTest {
  public static void main(String[] args) {
    Class<?> face = SettlingJars.class;
    Check.holds("the class is public and final",
        Modifier.isPublic(face.getModifiers()) && Modifier.isFinal(face.getModifiers()));
    methodsAreTheDocuments(face);
    constructorsAreTheDocuments(face);
    fieldsAreTheDocuments(face);
    Check.end("FaceTest");
  }

  private static void methodsAreTheDocuments(Class<?> face) {
    Set<String> due = methodsOfTheDocument();
    Set<String> found = new TreeSet<>();
    Set<String> publicNames = new TreeSet<>();
    for (Method method : face.getDeclaredMethods()) {
      if (!Modifier.isPrivate(method.getModifiers())) {
        found.add(written(method));
        publicNames.add(method.getName());
      }
    }
    Check.holds("the methods are " + found + ", due are " + due, found.equals(due));
    for (Method method : face.getDeclaredMethods()) {
      Check.holds("the private method " + method.getName() + " bears a public name",
          !Modifier.isPrivate(method.getModifiers()) || !publicNames.contains(method.getName()));
    }
  }

  /** As {@link #written} tells a method: the types, the name, and what is thrown, in its order. */
  private static Set<String> methodsOfTheDocument() {
    Set<String> methods = new TreeSet<>();
    String face = Source.found("(?s)```java\n(.*?)```", Source.document()).get(0);
    for (String line : Source.found("public ((?:int|long|double) \\w+\\(.*);", face)) {
      methods.add(line.replaceAll("(int) \\w+(?=[,)])", "$1").replaceAll(" throws", "")
          .replaceAll(",", "") + " ");
    }
    Check.same("methods in the document", 25, methods.size());
    return methods;
  }

  private static String written(Method method) {
    StringBuilder text = new StringBuilder();
    text.append(method.getReturnType().getSimpleName()).append(' ').append(method.getName());
    text.append('(').append(names(method.getParameterTypes()).trim()).append(") ");
    text.append(names(method.getExceptionTypes()));
    return text.toString();
  }

  private static String names(Class<?>[] types) {
    StringBuilder text = new StringBuilder();
    for (Class<?> type : types) {
      text.append(type.getSimpleName()).append(' ');
    }
    return text.toString();
  }

  private static void constructorsAreTheDocuments(Class<?> face) {
    Constructor<?>[] found = face.getDeclaredConstructors();
    Check.holds("there is one public constructor, without parameters",
        found.length == 1 && Modifier.isPublic(found[0].getModifiers())
            && found[0].getParameterCount() == 0);
  }

  private static void fieldsAreTheDocuments(Class<?> face) {
    for (Field field : face.getDeclaredFields()) {
      int modifiers = field.getModifiers();
      boolean isNone = field.getName().equals("NONE");
      Check.holds("the field " + field.getName() + " is to be seen where it should not",
          isNone == Modifier.isPublic(modifiers) && isNone != Modifier.isPrivate(modifiers));
      Check.holds("the static field " + field.getName() + " is not final",
          !Modifier.isStatic(modifiers) || Modifier.isFinal(modifiers));
    }
    Check.same("NONE", -1, SettlingJars.NONE);
  }
}
