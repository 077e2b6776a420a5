import java.io.IOException;
import java.lang.reflect.Field;
import java.lang.reflect.Method;
import java.lang.reflect.Modifier;
import java.nio.charset.StandardCharsets;
import java.nio.file.Files;
import java.nio.file.Path;
import java.util.ArrayList;
import java.util.List;
import java.util.Map;
import java.util.Set;
import java.util.TreeMap;
import java.util.TreeSet;
import java.util.regex.Matcher;
import java.util.regex.Pattern;

/** What of ../shared/LANGUAGE.md can be seen in the text of the class; run from the project's folder. */
public final class LanguageTest {
  private static final Checks CHECKS = new Checks("LanguageTest");
  private static final Path SOURCE = Path.of("src/main/java/PrefixYard.java");
  private static final Set<String> KNOWN = Set.of("PrefixYard", "Span", "Math", "IndexOutOfBoundsException",
      "IllegalArgumentException", "IllegalStateException");

  public static void main(String[] args) throws IOException {
    String text = Files.readString(SOURCE, StandardCharsets.UTF_8);
    CHECKS.due("rule 3: signs above 127", text.chars().filter(sign -> sign > 127).count(), 0L);
    String code = withoutComments(text);
    rule1(code);
    rules2And3(code);
    rules4And5(code);
    rule6(code);
    rule7(code);
    rules8And11(code);
    rule9(code);
    rule10(code);
    rule11(code);
    rule12(code);
    CHECKS.finish();
  }

  private static String withoutComments(String text) {
    return text.replaceAll("(?s)/\\*.*?\\*/", "").replaceAll("//[^\n]*", "").replaceAll("\"[^\"\n]*\"", "\"\"");
  }

  private static TreeSet<String> found(String code, String pattern) {
    TreeSet<String> all = new TreeSet<>();
    Matcher matcher = Pattern.compile(pattern).matcher(code);
    while (matcher.find()) {
      all.add(matcher.group());
    }
    return all;
  }

  private static void none(String what, String code, String pattern) {
    CHECKS.due(what, found(code, pattern), new TreeSet<String>());
  }

  private static void rule1(String code) {
    none("a package or an import", code, "\\b(package|import)\\b");
    none("protected", code, "\\bprotected\\b");
  }

  private static void rules2And3(String code) {
    none("classes in methods, and anonymous ones", code, "(?m)^ {8,}[\\w ]*\\bclass\\b|new \\w+\\([^\\n]*\\) \\{");
    none("arrays of two dimensions", code, "\\]\\s*\\[");
    none("other types of numbers", code, "\\b(long|short|byte|char|double|float)\\b");
  }

  private static void rules4And5(String code) {
    TreeSet<String> names = found(code, "\\b[A-Z][A-Za-z]*[a-z][A-Za-z]*\\b");
    names.removeAll(KNOWN);
    CHECKS.due("rule 4: other names of classes", names, new TreeSet<String>());
    none("rule 4: functions of Math", code, "\\bMath\\.(?!min\\b|max\\b)\\w+");
    none("rule 2: lambdas and method references", code, "->|::");
    none("rule 5: a static initialiser", code, "static\\s*\\{");
    for (Field field : PrefixYard.class.getDeclaredFields()) {
      if (Modifier.isStatic(field.getModifiers())) {
        CHECKS.due("rule 5: final " + field.getName(), Modifier.isFinal(field.getModifiers()), true);
      }
    }
  }

  private static void rule6(String code) {
    none("no try and what goes with it", code, "\\b(try|catch|finally|synchronized|assert|switch)\\b");
    none("no throw but of a new one with a written text", code, "\\bthrow\\b(?! new Il| new In)");
    none("no text but that", code, "throw new \\w+\\((?!\"\"\\);)");
    none("no methods of all objects", code, "\\b(equals|hashCode|toString|getClass)\\b");
    Matcher constructors = Pattern.compile("(?ms)^( *)(?:public )?(?:PrefixYard|Span)\\([^)]*\\) \\{\\n(.*?)^\\1\\}").matcher(code);
    int count = 0;
    while (constructors.find()) {
      count++;
      none("no throw in a constructor", constructors.group(2), "\\bthrow\\b");
      none("rule 12: no call in a constructor", constructors.group(2), "\\b(?<!new )\\w+\\(");
    }
    CHECKS.due("constructors looked at", count, 2);
  }

  private static void rule7(String code) {
    none("a divisor but a number", code, "[/%]=?+(?! ?\\d)[^\n]*");
    none("casts", code, "\\((int|long|short|byte|char|Span)\\)");
  }

  // What each method calls, of those that stand in the file.
  private static Map<String, TreeSet<String>> calls(String code) {
    Map<String, String> bodies = new TreeMap<>();
    Matcher matcher = Pattern.compile(
        "(?ms)^( {4}| {8})(?:(?:public|private|static) )*\\w+ (\\w+)\\([^)]*\\)[^;{}]*\\{\\n(.*?)^\\1\\}").matcher(code);
    while (matcher.find()) {
      CHECKS.due("one method of the name " + matcher.group(2), bodies.put(matcher.group(2), matcher.group(3)) == null, true);
    }
    Map<String, TreeSet<String>> calls = new TreeMap<>();
    for (Map.Entry<String, String> body : bodies.entrySet()) {
      TreeSet<String> called = found(body.getValue(), "\\b\\w+(?=\\()");
      called.retainAll(bodies.keySet());
      calls.put(body.getKey(), called);
    }
    return calls;
  }

  private static int deepest(Map<String, TreeSet<String>> calls, String from, List<String> open) {
    if (open.contains(from)) {
      return 1000;
    }
    open.add(from);
    int deepest = 0;
    for (String called : calls.get(from)) {
      deepest = Math.max(deepest, deepest(calls, called, open));
    }
    open.remove(from);
    return deepest + 1;
  }

  private static void rules8And11(String code) {
    Map<String, TreeSet<String>> calls = calls(code);
    for (Method method : PrefixYard.class.getDeclaredMethods()) {
      CHECKS.due("found " + method.getName(), calls.containsKey(method.getName()), true);
    }
    for (String method : calls.keySet()) {
      CHECKS.due("calls without recursion, at most 8 deep, of " + method,
          deepest(calls, method, new ArrayList<>()) <= 8, true);
    }
  }

  // A loop over an array, or one whose own line has a bound; what is counted there is looked at by hand.
  private static void rule9(String code) {
    none("loops without a bound", code, "\\bdo\\b|\\b(for|while) \\((?![^\\n]*([<>]| : ))[^\\n]*");
  }

  private static void rule10(String code) {
    none("texts joined by +", code, "\"\\s*\\+|\\+\\s*\"");
  }

  private static void rule12(String code) {
    List<String> made = new ArrayList<>();
    Matcher matcher = Pattern.compile("\\bnew (?!\\w+Exception\\()\\w+.").matcher(code);
    while (matcher.find()) {
      made.add(matcher.group());
    }
    CHECKS.due("what is made, in the constructor and for a carved span", made,
        List.of("new Span(", "new Span[", "new int[", "new int[", "new Span("));
  }

  private static void rule11(String code) {
    int lines = 0;
    int longest = 0;
    for (String line : code.split("\n")) {
      boolean inMethod = line.isEmpty() || line.startsWith("        ") || line.startsWith("    }");
      lines = inMethod ? lines + 1 : 0;
      longest = Math.max(longest, lines);
      lines = line.startsWith("    }") ? 0 : lines;
    }
    CHECKS.due("methods of at most 60 lines", longest <= 60, true);
    for (Method method : PrefixYard.class.getDeclaredMethods()) {
      CHECKS.due("parameters of " + method.getName(), method.getParameterCount() <= 7, true);
    }
    int fields = 0;
    for (Field field : PrefixYard.class.getDeclaredFields()) {
      fields += Modifier.isStatic(field.getModifiers()) ? 0 : 1;
    }
    CHECKS.due("at most 20 fields", fields <= 20, true);
  }
}
