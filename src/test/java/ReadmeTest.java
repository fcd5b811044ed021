import java.io.IOException;
import java.lang.reflect.Method;
import java.lang.reflect.Modifier;
import java.net.URL;
import java.net.URLClassLoader;
import java.nio.file.Files;
import java.nio.file.Path;
import java.nio.file.attribute.PosixFilePermission;
import java.util.ArrayList;
import java.util.List;
import java.util.Set;
import java.util.TreeSet;
import java.util.regex.Matcher;
import java.util.regex.Pattern;
import java.util.stream.Stream;
import javax.tools.ToolProvider;

/** What README.md says: its example answers so, its command runs every test, its names are there. */
public final class ReadmeTest {
  private static final Pattern CALL = Pattern.compile("(jars\\..*);\\s*// (-?[0-9.]+): .+");

  public static void main(String[] args) throws Exception {
    Path made = Files.createTempDirectory("readme");
    try {
      exampleAnswersAsTold(made);
      commandRunsEveryTest(made);
    } finally {
      remove(made);
    }
    methodsAreNamed();
    testsAreNamed();
    testsAreFound();
    Check.end("ReadmeTest");
  }

  /** The example as it stands in README.md, and once more with a look at what each call answers. */
  private static void exampleAnswersAsTold(Path made) throws Exception {
    List<String> examples = Source.found("(?s)```java\n(.*?)```", Source.readme());
    Check.same("examples in README.md", 1, examples.size());
    String example = String.join("\n", examples);
    StringBuilder looked = new StringBuilder();
    int answers = 0;
    for (String line : example.split("\n")) {
      Matcher call = CALL.matcher(line);
      if (call.matches()) {
        looked.append("ReadmeTest.answers(\"").append(call.group(1).replace("\"", "\\\""))
            .append("\", ").append(call.group(2)).append(", ").append(call.group(1)).append(");\n");
        answers++;
      } else {
        Check.holds("README.md tells no answer of " + line, !line.startsWith("jars."));
        looked.append(line).append('\n');
      }
    }
    Check.holds("README.md should tell answers", answers > 0);
    runBoth(made, example, looked.toString());
  }

  private static void runBoth(Path made, String example, String looked) throws Exception {
    Path source = made.resolve("ReadmeExample.java");
    Files.writeString(source, "public final class ReadmeExample {\n"
        + "public static void asItStands() {\n" + example + "}\n"
        + "public static void looked() {\n" + looked + "}\n}\n");
    int code = ToolProvider.getSystemJavaCompiler().run(null, null, null, "-d", made.toString(),
        "-cp", System.getProperty("java.class.path"), source.toString());
    Check.same("compiling the example of README.md", 0, code);
    if (code == 0) {
      URL[] place = {made.toUri().toURL()};
      try (URLClassLoader loader = new URLClassLoader(place, ReadmeTest.class.getClassLoader())) {
        Class<?> compiled = loader.loadClass("ReadmeExample");
        compiled.getMethod("asItStands").invoke(null);
        compiled.getMethod("looked").invoke(null);
      }
    }
  }

  /** What the example's calls are put into. */
  public static void answers(String call, long told, long got) {
    Check.same(call + ", where README.md tells what is due,", told, got);
  }

  public static void answers(String call, double told, double got) {
    Check.sameBits(call + ", where README.md tells what is due,", told, got);
  }

  /** A small project with this project's script, in which the command of README.md is run. */
  private record Project(String name, boolean good, String program, String test, String shared,
      String ran) {
  }

  private static final int AT_A_TIME = 3;
  private static final String PROGRAM = "public final class SettlingJars { }";
  private static final String RIGHT = "System.out.println(\"right has run\");";
  private static final String WRONG = "System.exit(1);";
  private static final String THROWING = "throw new IllegalStateException();";
  private static final String SPOILT = "int;";

  private static final List<Project> PROJECTS = List.of(
      new Project("all is right", true, PROGRAM, RIGHT, RIGHT, "[right, last, right, last]"),
      new Project("a wrong test of the project", false, PROGRAM, WRONG, RIGHT, "[last, right, last]"),
      new Project("one that throws", false, PROGRAM, THROWING, RIGHT, "[last, right, last]"),
      new Project("one that does not compile", false, PROGRAM, SPOILT, RIGHT, null),
      new Project("a wrong shared test", false, PROGRAM, RIGHT, WRONG, "[right, last, last]"),
      new Project("a shared one that throws", false, PROGRAM, RIGHT, THROWING, "[right, last, last]"),
      new Project("a shared one that does not compile", false, PROGRAM, RIGHT, SPOILT,
          "[right, last, last]"),
      new Project("no shared test", false, PROGRAM, RIGHT, null, null),
      new Project("a program that does not compile", false, "class {", RIGHT, RIGHT, null));

  private static void commandRunsEveryTest(Path made) throws Exception {
    String chapter = Source.readme().replaceAll("(?s).*\n## How to run its tests\n", "");
    List<String> commands = Source.found("(?m)^    (\\S.*)$", chapter);
    Check.same("commands in README.md", 1, commands.size());
    Check.holds(".ci/run is no program", Files.getPosixFilePermissions(Path.of(".ci/run"))
        .contains(PosixFilePermission.OWNER_EXECUTE));
    // A few at a time: each starts its own compilers.
    for (int first = 0; first < PROJECTS.size(); first += AT_A_TIME) {
      List<Project> some = PROJECTS.subList(first, Math.min(first + AT_A_TIME, PROJECTS.size()));
      runAll(made, some, String.join("\n", commands));
    }
  }

  private static void runAll(Path made, List<Project> projects, String command) throws Exception {
    List<Process> runs = new ArrayList<>();
    for (Project project : projects) {
      Path root = made.resolve(project.name()).resolve("main");
      lay(root, project);
      runs.add(new ProcessBuilder("bash", "-c", command)
          .directory(root.toFile()).redirectErrorStream(true)
          .redirectOutput(root.resolve("told").toFile()).start());
    }
    for (int k = 0; k < runs.size(); k++) {
      Project project = projects.get(k);
      isAsDue(project, runs.get(k).waitFor() == 0,
          Source.read(made.resolve(project.name()).resolve("main/told")));
    }
  }

  private static void isAsDue(Project project, boolean good, String told) {
    Check.holds("with " + project.name() + ", the command ends as if that was "
        + (good ? "right" : "wrong") + ":\n" + told, good == project.good());
    String ran = Source.found("(?m)^(\\w+) has run$", told).toString();
    Check.holds("with " + project.name() + ", these have run: " + ran + ", due are "
        + project.ran(), project.ran() == null || project.ran().equals(ran));
  }

  private static void lay(Path root, Project project) throws IOException {
    Files.createDirectories(root.resolve(".ci"));
    Files.copy(Path.of(".ci/run"), root.resolve(".ci/run"));
    write(root.resolve("src/main/java/SettlingJars.java"), project.program());
    write(root.resolve("src/test/java/FirstTest.java"), test("FirstTest", project.test()));
    write(root.resolve("src/test/java/LastTest.java"), test("LastTest", last()));
    Path shared = root.resolveSibling("shared/tests");
    if (project.shared() != null) {
      write(shared.resolve("First.java"), test("First", project.shared()));
      write(shared.resolve("Last.java"), test("Last", last()));
    }
  }

  private static String last() {
    return RIGHT.replace("right", "last");
  }

  private static String test(String name, String body) {
    return "public final class " + name + " { public static void main(String[] args) { "
        + "new SettlingJars(); " + body + " } }";
  }

  private static void write(Path path, String text) throws IOException {
    Files.createDirectories(path.getParent());
    Files.writeString(path, text);
  }

  private static void methodsAreNamed() {
    Set<String> named = new TreeSet<>(Source.found("`(\\w+)`", Source.readme()));
    for (Method method : SettlingJars.class.getDeclaredMethods()) {
      Check.holds("README.md does not name " + method.getName(),
          !Modifier.isPublic(method.getModifiers()) || named.contains(method.getName()));
    }
  }

  private static void testsAreNamed() {
    Set<String> named = new TreeSet<>(Source.found("`([A-Z]\\w*)`", Source.readme()));
    named.remove("NONE");
    Set<String> there = new TreeSet<>();
    for (Path path : Source.tests()) {
      there.add(path.getFileName().toString().replace(".java", ""));
    }
    Check.holds("README.md names " + named + ", there are " + there, named.equals(there));
  }

  /** The command runs what is named *Test.java, and that alone. */
  private static void testsAreFound() {
    for (Path path : Source.tests()) {
      Check.holds(path + " is not where the command looks for tests",
          path.getParent().equals(Path.of("src/test/java")));
      Check.holds(path + " should be named *Test.java just if it can be run",
          path.toString().endsWith("Test.java")
              == Source.read(path).contains("public static void main(String[] args)"));
    }
  }

  private static void remove(Path path) throws IOException {
    if (Files.isDirectory(path)) {
      try (Stream<Path> inside = Files.list(path)) {
        for (Path each : inside.toList()) {
          remove(each);
        }
      }
    }
    Files.delete(path);
  }
}
