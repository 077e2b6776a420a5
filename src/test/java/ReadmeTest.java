import java.io.ByteArrayOutputStream;
import java.io.IOException;
import java.io.PrintStream;
import java.lang.reflect.Method;
import java.lang.reflect.Modifier;
import java.net.URL;
import java.net.URLClassLoader;
import java.nio.charset.StandardCharsets;
import java.nio.file.Files;
import java.nio.file.Path;
import java.util.TreeSet;
import java.util.regex.Matcher;
import java.util.regex.Pattern;
import javax.tools.ToolProvider;

/** What README.md says is so: its example prints what stands there, its tables are whole; run from the project's folder. */
public final class ReadmeTest {
  private static final Checks CHECKS = new Checks("ReadmeTest");
  private static final Path TESTS = Path.of("src/test/java");

  public static void main(String[] args) throws Exception {
    String text = Files.readString(Path.of("README.md"), StandardCharsets.UTF_8);
    theExamplePrintsWhatStandsThere(text);
    theTableOfCallsIsTheFace(text);
    theTableOfTestsIsWhole(text);
    CHECKS.due("it says for how many calls an object is", text.contains("at most 512 calls"), true);
    CHECKS.due("it says how the tests are run", text.contains("\n    bash .ci/run\n"), true);
    CHECKS.finish();
  }

  private static String block(String text, String kind) {
    Matcher matcher = Pattern.compile("(?s)\n```" + kind + "\n(.*?)```\n").matcher(text);
    return matcher.find() ? matcher.group(1) : "";
  }

  private static void theExamplePrintsWhatStandsThere(String text) throws Exception {
    Path folder = Files.createTempDirectory("readme");
    Path example = folder.resolve("Example.java");
    Files.writeString(example, block(text, "java"), StandardCharsets.UTF_8);
    int compiled = ToolProvider.getSystemJavaCompiler().run(null, null, null, "--release", "17", "-d", folder.toString(),
        "src/main/java/PrefixYard.java", example.toString());
    CHECKS.due("compiling the example", compiled, 0);
    if (compiled == 0) {
      CHECKS.due("the example", printed(folder), block(text, "text"));
    }
    removeAll(folder);
  }

  private static String printed(Path folder) throws Exception {
    ByteArrayOutputStream bytes = new ByteArrayOutputStream();
    PrintStream before = System.out;
    try (URLClassLoader loader = new URLClassLoader(new URL[] {folder.toUri().toURL()}, null);
        PrintStream out = new PrintStream(bytes, true, StandardCharsets.UTF_8)) {
      System.setOut(out);
      loader.loadClass("Example").getMethod("main", String[].class).invoke(null, (Object) new String[0]);
    } finally {
      System.setOut(before);
    }
    return bytes.toString(StandardCharsets.UTF_8).replace(System.lineSeparator(), "\n");
  }

  private static void removeAll(Path folder) throws IOException {
    try (var files = Files.newDirectoryStream(folder)) {
      for (Path file : files) {
        Files.delete(file);
      }
    }
    Files.delete(folder);
  }

  // A row of a call: how it is called, with as many parameters as it has, and just its exceptions in their order.
  private static void theTableOfCallsIsTheFace(String text) {
    TreeSet<String> want = new TreeSet<>();
    for (Method method : PrefixYard.class.getDeclaredMethods()) {
      if (Modifier.isPublic(method.getModifiers())) {
        StringBuilder row = new StringBuilder(method.getName() + " " + method.getParameterCount());
        for (Class<?> thrown : method.getExceptionTypes()) {
          row.append(' ').append(thrown.getSimpleName());
        }
        want.add(row.toString());
      }
    }
    TreeSet<String> got = new TreeSet<>();
    Matcher rows = Pattern.compile("(?m)^\\| `(\\w+)\\((.*?)\\)` \\|.*\\|(.*)\\|$").matcher(text);
    while (rows.find()) {
      int parameters = rows.group(2).isEmpty() ? 0 : rows.group(2).split(", ").length;
      StringBuilder row = new StringBuilder(rows.group(1) + " " + parameters);
      Matcher thrown = Pattern.compile("`(\\w+)`: ").matcher(rows.group(3));
      while (thrown.find()) {
        row.append(' ').append(thrown.group(1));
      }
      got.add(row.toString());
    }
    CHECKS.due("the table of calls", got, want);
  }

  private static void theTableOfTestsIsWhole(String text) throws IOException {
    TreeSet<String> want = new TreeSet<>();
    try (var files = Files.newDirectoryStream(TESTS, "*Test.java")) {
      for (Path file : files) {
        want.add(file.getFileName().toString().replace(".java", ""));
      }
    }
    TreeSet<String> got = new TreeSet<>();
    Matcher rows = Pattern.compile("(?m)^\\| `(\\w+Test)` \\|").matcher(text);
    while (rows.find()) {
      got.add(rows.group(1));
    }
    CHECKS.due("the table of tests", got, want);
  }
}
