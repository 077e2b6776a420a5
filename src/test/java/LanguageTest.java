import java.io.IOException;
import java.lang.reflect.Field;
import java.lang.reflect.Method;
import java.lang.reflect.Modifier;
import java.nio.charset.StandardCharsets;
import java.nio.file.Files;
import java.nio.file.Path;
import java.util.Set;
import java.util.TreeSet;
import java.util.regex.Matcher;
import java.util.regex.Pattern;

/** What of ../shared/LANGUAGE.md can be seen in the text of the class; run from the project's folder. */
public final class LanguageTest {
  private static final Checks CHECKS = new Checks("LanguageTest");
  private static final Path SOURCE = Path.of("src/main/java/PrefixYard.java");
  private static final Set<String> KNOWN = Set.of("PrefixYard", "Span", "Math", "IndexOutOfBoundsException",
      "IllegalArgumentException", "IllegalStateException");

  public static void main(String[] args) throws IOException {
    String text = Files.readString(SOURCE, StandardCharsets.UTF_8);
    CHECKS.due("rule 3: signs above 127", text.chars().filter(sign -> sign > 127).count(), 0L);
    String code = withoutComments(text);
    rule1(code);
    rules4And5(code);
    rule6(code);
    rule7(code);
    rule11(code);
    CHECKS.finish();
  }

  private static String withoutComments(String text) {
    return text.replaceAll("(?s)/\\*.*?\\*/", "").replaceAll("//[^\n]*", "").replaceAll("\"[^\"\n]*\"", "\"\"");
  }

  private static TreeSet<String> found(String code, String pattern) {
    TreeSet<String> all = new TreeSet<>();
    Matcher matcher = Pattern.compile(pattern).matcher(code);
    while (matcher.find()) {
      all.add(matcher.group());
    }
    return all;
  }

  private static void none(String what, String code, String pattern) {
    CHECKS.due(what, found(code, pattern), new TreeSet<String>());
  }

  private static void rule1(String code) {
    none("a package or an import", code, "\\b(package|import)\\b");
    none("protected", code, "\\bprotected\\b");
  }

  private static void rules4And5(String code) {
    TreeSet<String> names = found(code, "\\b[A-Z][A-Za-z]*[a-z][A-Za-z]*\\b");
    names.removeAll(KNOWN);
    CHECKS.due("rule 4: other names of classes", names, new TreeSet<String>());
    none("rule 4: functions of Math", code, "\\bMath\\.(?!min\\b|max\\b)\\w+");
    none("rule 2: lambdas and method references", code, "->|::");
    none("rule 5: a static initialiser", code, "static\\s*\\{");
    for (Field field : PrefixYard.class.getDeclaredFields()) {
      if (Modifier.isStatic(field.getModifiers())) {
        CHECKS.due("rule 5: final " + field.getName(), Modifier.isFinal(field.getModifiers()), true);
      }
    }
  }

  private static void rule6(String code) {
    none("no try and what goes with it", code, "\\b(try|catch|finally|synchronized|assert|switch)\\b");
    none("no throw but of a new one with a written text", code, "\\bthrow\\b(?! new Il| new In)");
    none("no text but that", code, "throw new \\w+\\((?!\"\"\\);)");
    none("no methods of all objects", code, "\\b(equals|hashCode|toString|getClass)\\b");
  }

  private static void rule7(String code) {
    none("a divisor but a number", code, "[/%]=?+(?! ?\\d)[^\n]*");
    none("casts", code, "\\((int|long|short|byte|char|Span)\\)");
  }

  private static void rule11(String code) {
    int lines = 0;
    int longest = 0;
    for (String line : code.split("\n")) {
      boolean inMethod = line.isEmpty() || line.startsWith("        ") || line.startsWith("    }");
      lines = inMethod ? lines + 1 : 0;
      longest = Math.max(longest, lines);
      lines = line.startsWith("    }") ? 0 : lines;
    }
    CHECKS.due("methods of at most 60 lines", longest <= 60, true);
    for (Method method : PrefixYard.class.getDeclaredMethods()) {
      CHECKS.due("parameters of " + method.getName(), method.getParameterCount() <= 7, true);
    }
    int fields = 0;
    for (Field field : PrefixYard.class.getDeclaredFields()) {
      fields += Modifier.isStatic(field.getModifiers()) ? 0 : 1;
    }
    CHECKS.due("at most 20 fields", fields <= 20, true);
  }
}
