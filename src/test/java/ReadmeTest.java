import java.net.URL;
import java.net.URLClassLoader;
import java.nio.file.Files;
import java.nio.file.Path;
import java.util.ArrayList;
import java.util.List;
import java.util.Set;
import java.util.TreeSet;
import java.util.regex.Matcher;
import java.util.regex.Pattern;
import java.util.stream.Stream;
import javax.tools.ToolProvider;

/** README.md says how the class is used and how its tests run: what it shows is run, what it names is there. */
public final class ReadmeTest extends Helps {
  public static void main(String[] args) throws Exception {
    String readme = Files.readString(Path.of("README.md"));
    linesAnswerWhatStandsBehindThem(readme);
    testsAreThoseNamed(readme);
    end("ReadmeTest");
  }

  private static void linesAnswerWhatStandsBehindThem(String readme) throws Exception {
    Matcher block = Pattern.compile("(?s)```java\n(.*?)```").matcher(readme);
    due("README.md shows lines", block.find() ? 1 : 0, 1);
    Matcher line = Pattern.compile("(?m)^(lists\\..*\\)); *// (-?\\d+).*$").matcher(block.group(1));
    List<String> calls = new ArrayList<>();
    List<Long> wanted = new ArrayList<>();
    String collecting = line.replaceAll(m -> {
      calls.add(m.group(1));
      wanted.add(Long.parseLong(m.group(2)));
      return Matcher.quoteReplacement("answers.add((long) " + m.group(1) + ");");
    });
    due("calls with their answers behind them", calls.size(), block.group(1).lines().filter(one -> one.startsWith("lists.")).count());
    List<?> answers = answersOf(collecting);
    for (int i = 0; i < answers.size(); i++) due("README.md: " + calls.get(i), (Long) answers.get(i), wanted.get(i));
    due("calls that were run", answers.size(), calls.size());
  }

  private static List<?> answersOf(String lines) throws Exception {
    Path out = Files.createTempDirectory("readme");
    Path source = out.resolve("Shown.java");
    Path compiled = out.resolve("Shown.class");
    try (URLClassLoader loader = new URLClassLoader(new URL[] {out.toUri().toURL()})) {
      Files.writeString(source, "public class Shown { public static java.util.List<Long> answers() {\n"
          + "java.util.List<Long> answers = new java.util.ArrayList<>();\n" + lines + "return answers; } }\n");
      int failed = ToolProvider.getSystemJavaCompiler().run(null, null, null, "-cp", System.getProperty("java.class.path"), "-d", out.toString(), source.toString());
      due("what README.md shows compiles", failed, 0);
      return failed != 0 ? List.of() : (List<?>) loader.loadClass("Shown").getMethod("answers").invoke(null);
    } finally {
      Files.deleteIfExists(source);
      Files.deleteIfExists(compiled);
      Files.deleteIfExists(out);
    }
  }

  private static void testsAreThoseNamed(String readme) throws Exception {
    Set<String> named = new TreeSet<>(), there = new TreeSet<>();
    Matcher item = Pattern.compile("(?m)^- `(\\w+Test)`").matcher(readme);
    while (item.find()) named.add(item.group(1));
    try (Stream<Path> files = Files.list(Path.of("src/test/java"))) {
      files.map(file -> file.getFileName().toString()).filter(name -> name.endsWith("Test.java"))
          .forEach(name -> there.add(name.substring(0, name.length() - 5)));
    }
    due("the tests are " + there + ", README.md names " + named, named.equals(there) ? 1 : 0, 1);
  }
}
