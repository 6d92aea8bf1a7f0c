import java.io.IOException;
import java.lang.reflect.InvocationTargetException;
import java.net.URL;
import java.net.URLClassLoader;
import java.nio.file.Files;
import java.nio.file.Path;
import java.util.List;
import java.util.TreeSet;
import java.util.regex.Matcher;
import java.util.regex.Pattern;
import java.util.stream.Stream;
import javax.tools.ToolProvider;

/** What README.md says: its example answers as its comments say, and it names every test. */
public final class ReadmeTest {
  /** What the example's comments say, asked of its own variables. */
  private static final String QUESTIONS =
      "return loom.symbol(all, 0) + \" \" + loom.symbol(all, 1) + \" \" + loom.symbol(all, 2) + \" \""
          + " + loom.symbol(all, 3) + \", \" + loom.measure(all, 0)"
          + " + \", \" + loom.same(py, loom.put(px, x, y))"
          + " + \", \" + variables + \", \" + loom.same(became, y) + \", \" + (became != y);";

  public static void main(String[] args) throws IOException, ReflectiveOperationException {
    String readme = Files.readString(Path.of("README.md"));
    example(readme);
    tests(readme);
    Checks.end("ReadmeTest");
  }

  private static void example(String readme) throws IOException, ReflectiveOperationException {
    Matcher block = Pattern.compile("(?s)```java\n(.*?)```").matcher(readme);
    Checks.due("README.md has an example", block.find() ? "yes" : "no", "yes");
    String source = "public class Example { public static String run() {" + block.group(1) + QUESTIONS + "}}";
    Checks.due("README.md's example", answer(source), "-2 -1 1 0, 4, true, 2, true, true");
  }

  private static String answer(String source) throws IOException, ReflectiveOperationException {
    Path place = Files.createTempDirectory("readme");
    Path file = Files.writeString(place.resolve("Example.java"), source);
    String classes = System.getProperty("java.class.path");
    int failed = ToolProvider.getSystemJavaCompiler()
        .run(null, null, null, "-d", place.toString(), "-cp", classes, file.toString());
    String answer = failed == 0 ? run(place) : "does not compile";
    for (Path made : List.of(place.resolve("Example.class"), file, place)) {
      Files.deleteIfExists(made);
    }
    return answer;
  }

  private static String run(Path place) throws IOException, ReflectiveOperationException {
    try (URLClassLoader loader = new URLClassLoader(new URL[] {place.toUri().toURL()})) {
      return (String) loader.loadClass("Example").getMethod("run").invoke(null);
    } catch (InvocationTargetException e) {
      return "throws " + e.getCause();
    }
  }

  private static void tests(String readme) throws IOException {
    TreeSet<String> named = new TreeSet<>();
    Matcher name = Pattern.compile("`(\\w+Test)`").matcher(readme);
    while (name.find()) {
      named.add(name.group(1));
    }
    TreeSet<String> there = new TreeSet<>();
    try (Stream<Path> files = Files.list(Path.of("src/test/java"))) {
      files.map(file -> file.getFileName().toString())
          .filter(file -> file.endsWith("Test.java"))
          .forEach(file -> there.add(file.replace(".java", "")));
    }
    Checks.due("README.md names the tests", named.toString(), there.toString());
  }
}
