import java.io.IOException;
import java.io.UncheckedIOException;
import java.nio.file.Files;
import java.nio.file.Path;
import java.util.ArrayList;
import java.util.List;
import java.util.regex.Matcher;
import java.util.regex.Pattern;
import java.util.stream.Stream;

/** The texts that belong to the project, as seen from its root, where .ci/run starts the tests. */
final class Source {
  private static final Path TESTS = Path.of("src/test/java");

  private Source() {
  }

  static String document() {
    return read(Path.of("../shared/DOC.md"));
  }

  static String readme() {
    return read(Path.of("README.md"));
  }

  static String program() {
    return read(Path.of("src/main/java/SettlingJars.java"));
  }

  static String read(Path path) {
    try {
      return Files.readString(path);
    } catch (IOException e) {
      throw new UncheckedIOException(e);
    }
  }

  /** All Java files under src/test/java, however deep. */
  static List<Path> tests() {
    try (Stream<Path> paths = Files.walk(TESTS)) {
      return paths.filter(path -> path.toString().endsWith(".java")).sorted().toList();
    } catch (IOException e) {
      throw new UncheckedIOException(e);
    }
  }

  /** With one space wherever the text has spaces or a new line. */
  static String inOneLine(String text) {
    return text.replaceAll("\\s+", " ");
  }

  /** What the first group of the pattern holds, each time that it is found. */
  static List<String> found(String pattern, String text) {
    List<String> found = new ArrayList<>();
    Matcher matcher = Pattern.compile(pattern).matcher(text);
    while (matcher.find()) {
      found.add(matcher.group(1));
    }
    return found;
  }
}
