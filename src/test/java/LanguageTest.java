import java.lang.reflect.Field;
import java.lang.reflect.Method;
import java.lang.reflect.Modifier;
import java.util.ArrayList;
import java.util.List;
import java.util.Set;

/**
 * The rules of LANGUAGE.md, as far as the words of the program's source and its classes tell; that
 * nothing is thrown by itself, and that each loop ends, is not seen here.
 */
public final class LanguageTest {
  private static final Set<String> EXCEPTIONS = Set.of("IllegalStateException",
      "IllegalArgumentException", "IndexOutOfBoundsException", "ArithmeticException",
      "UnsupportedOperationException", "NoSuchElementException", "RuntimeException");
  private static final Set<String> LIBRARY = Set.of("String", "StringBuilder", "Integer", "Long",
      "List", "ArrayList", "Math", "System", "Arrays", "Iterator", "Iterable", "Comparable",
      "Override");
  /** Of the functions that LANGUAGE.md lists, those that might be used; others are told. */
  private static final Set<String> FUNCTIONS = Set.of("Math.max", "Math.min", "Math.abs",
      "Math.floorDiv", "Math.floorMod", "System.arraycopy", "Arrays.fill", "Arrays.copyOf",
      "Arrays.copyOfRange");
  private static final Set<String> STATIC_TYPES = Set.of("int", "long", "boolean", "char", "String",
      "int[]", "long[]", "char[]", "byte[]");
  private static final int MOST_CLASSES = 12;
  private static final int MOST_FIELDS = 20;
  private static final int MOST_PARAMETERS = 7;
  private static final int MOST_LINES = 60;

  public static void main(String[] args) {
    String program = Source.program();
    String bare = withoutTexts(program);
    namesAreListed(bare);
    wordsAreLeft(bare);
    throwsAreListed(program, bare);
    signsArePlain(program);
    blocksAreShort(program);
    for (Class<?> each : classes()) {
      classIsPlain(each);
    }
    Check.holds("there are too many classes", classes().size() <= MOST_CLASSES);
    Check.end("LanguageTest");
  }

  /** Without comments, and with nothing in the texts and the signs. */
  private static String withoutTexts(String program) {
    return program.replaceAll("(?s)/\\*.*?\\*/", " ").replaceAll("//.*", " ")
        .replaceAll("\"(\\\\.|[^\"\\\\])*\"", "\"\"").replaceAll("'(\\\\.|[^'\\\\])+'", "' '");
  }

  /** Rules 3, 4 and 13: no class and no function of the library but those that are listed. */
  private static void namesAreListed(String bare) {
    Set<String> own = Set.copyOf(Source.found("\\b(?:class|record|enum|interface) (\\w+)", bare));
    for (String name : Source.found("\\b([A-Z]\\w*[a-z]\\w*)\\b", bare)) {
      Check.holds("the name " + name + " is neither listed nor of the program",
          own.contains(name) || LIBRARY.contains(name) || EXCEPTIONS.contains(name));
    }
    for (String name : Source.found("\\b((?:Math|System|Arrays|Integer|Long)\\.\\w+)", bare)) {
      Check.holds("the function " + name + " is not listed", FUNCTIONS.contains(name));
    }
  }

  /** Rules 1, 2, 5 and 6. */
  private static void wordsAreLeft(String bare) {
    List<String> words = Source.found(
        "\\b(package|import|synchronized|assert|finally|volatile|native|strictfp|yield)\\b", bare);
    Check.holds("the program holds " + words, words.isEmpty());
    Check.holds("the program holds a lambda or a method reference",
        !bare.contains("->") && !bare.contains("::"));
    Check.holds("the program holds a static initialiser",
        Source.found("\\bstatic\\s*(\\{)", bare).isEmpty());
  }

  /** Rule 6: each throw makes a listed exception, with a written text or with none. */
  private static void throwsAreListed(String program, String bare) {
    List<String> all = Source.found("\\b(throw)\\b", bare);
    List<String> made = Source.found("\\bthrow new (\\w+)\\((?:\"[^\"\\\\]*\")?\\);", program);
    Check.same("throws with a written text or with none", all.size(), made.size());
    for (String name : made) {
      Check.holds("the exception " + name + " is not listed", EXCEPTIONS.contains(name));
    }
  }

  /** Rules 3 and 4: signs 1 to 127 alone. */
  private static void signsArePlain(String program) {
    for (int k = 0; k < program.length(); k++) {
      char sign = program.charAt(k);
      Check.holds("the program holds the sign " + (int) sign, sign >= 1 && sign <= 127);
    }
  }

  /** Rule 11: what is opened in a class is closed soon, as the indentation tells. */
  private static void blocksAreShort(String program) {
    String[] lines = program.split("\n");
    for (int k = 0; k < lines.length; k++) {
      boolean goesOn = lines[k].matches(" +throws .*") && k > 0;
      String space = lines[goesOn ? k - 1 : k].replaceAll("\\S.*", "");
      boolean opens = lines[k].endsWith("{") && !lines[k].matches(".*\\bclass\\b.*");
      if (opens && !space.isEmpty()) {
        int end = k;
        while (end < lines.length && !lines[end].startsWith(space + "}")) {
          end++;
        }
        Check.holds("too many lines from line " + (k + 1), end - k < MOST_LINES);
      }
    }
  }

  private static List<Class<?>> classes() {
    List<Class<?>> classes = new ArrayList<>(List.of(SettlingJars.class));
    for (int k = 0; k < classes.size(); k++) {
      classes.addAll(List.of(classes.get(k).getDeclaredClasses()));
    }
    return classes;
  }

  /** Rules 1, 2, 5, 6 and 11. */
  private static void classIsPlain(Class<?> each) {
    String name = each.getSimpleName();
    int modifiers = each.getModifiers();
    Check.holds(name + " is to be seen, or not static", each == SettlingJars.class
        || Modifier.isStatic(modifiers) && !Modifier.isPublic(modifiers)
            && !Modifier.isProtected(modifiers));
    Check.holds(name + " is an exception", !Throwable.class.isAssignableFrom(each));
    int fields = 0;
    for (Field field : each.getDeclaredFields()) {
      if (Modifier.isStatic(field.getModifiers())) {
        Check.holds(name + "." + field.getName() + " is no constant", field.isSynthetic()
            || Modifier.isFinal(field.getModifiers())
                && STATIC_TYPES.contains(field.getType().getSimpleName()));
      } else {
        fields++;
      }
    }
    Check.holds(name + " has " + fields + " fields", fields <= MOST_FIELDS);
    for (Method method : each.getDeclaredMethods()) {
      Check.holds(name + " has its own " + method.getName(),
          !Set.of("equals", "hashCode", "toString").contains(method.getName()));
      Check.holds(name + "." + method.getName() + " has too many parameters",
          method.getParameterCount() <= MOST_PARAMETERS);
    }
  }
}
