import java.lang.reflect.Constructor;
import java.lang.reflect.Field;
import java.lang.reflect.Method;
import java.lang.reflect.Modifier;
import java.nio.charset.StandardCharsets;
import java.nio.file.Files;
import java.nio.file.Path;
import java.util.ArrayList;
import java.util.List;
import java.util.TreeSet;
import java.util.regex.Matcher;
import java.util.regex.Pattern;

/**
 * The public face is just that of the document, its throws clauses in their order included, and the
 * headings ahead of its calls; run from the project's folder.
 */
public final class FaceTest {
  private static final String[] FACE = {
    "int carve(int,int,int,int) I A S", "int carveAt(int,int,int,int) I A S", "int remove(int) I S",
    "int grow(int) I S", "int halve(int) I S", "int setOwner(int,int) I A", "int lend(int,int) I A S",
    "int takeBack(int) I S", "int pass(int) A S", "int day()", "int spans()", "boolean isThere(int)",
    "int base(int) I", "int size(int) I", "int parent(int) I", "int free(int) I", "int greatestFree(int) I",
    "int inTheWay(int,int) I A", "int lent()", "boolean isLent(int) I", "int nearest(int) I",
    "int nearestByRow(int) I", "int owned(int) A", "int blocks(int) A"
  };

  // The calls in the document's order, and ahead of them what "the interface says".
  private static final List<String> ORDER = List.of(
      "---- spans.", "carve", "carveAt", "remove", "grow", "halve", "setOwner",
      "---- addresses that are lent, and days.", "lend", "takeBack", "pass",
      "---- what there is; nothing from here on changes anything.", "day", "spans", "isThere", "base", "size",
      "parent", "free", "greatestFree", "inTheWay", "lent", "isLent",
      "---- whose addresses are.", "nearest", "nearestByRow", "owned", "blocks");

  public static void main(String[] args) throws Exception {
    Checks checks = new Checks("FaceTest");
    TreeSet<String> want = new TreeSet<>();
    for (String method : FACE) {
      want.add(method);
    }
    TreeSet<String> got = new TreeSet<>();
    TreeSet<String> publicNames = new TreeSet<>();
    for (Method method : PrefixYard.class.getDeclaredMethods()) {
      if (!Modifier.isPrivate(method.getModifiers())) {
        got.add(told(method));
        publicNames.add(method.getName());
      }
    }
    checks.due("the methods", got, want);
    for (Method method : PrefixYard.class.getDeclaredMethods()) {
      if (Modifier.isPrivate(method.getModifiers())) {
        checks.due("a public name of private " + method.getName(), publicNames.contains(method.getName()), false);
      }
    }
    Constructor<?>[] constructors = PrefixYard.class.getDeclaredConstructors();
    checks.due("constructors", constructors.length, 1);
    checks.due("the constructor", constructors[0].toString(), "public PrefixYard()");
    for (Field field : PrefixYard.class.getDeclaredFields()) {
      checks.due("private field " + field.getName(), Modifier.isPrivate(field.getModifiers()), true);
    }
    for (Class<?> inside : PrefixYard.class.getDeclaredClasses()) {
      int modifiers = inside.getModifiers();
      checks.due("static " + inside.getName(), Modifier.isStatic(modifiers), true);
      checks.due("public " + inside.getName(), Modifier.isPublic(modifiers) || Modifier.isProtected(modifiers), false);
    }
    checks.due("the class", Modifier.toString(PrefixYard.class.getModifiers()), "public final");
    checks.due("above it", PrefixYard.class.getSuperclass(), Object.class);
    checks.due("interfaces", PrefixYard.class.getInterfaces().length, 0);
    checks.due("the package", PrefixYard.class.getPackageName(), "");
    checks.due("the order, and the headings", order(), ORDER);
    checks.finish();
  }

  // Headings of what is private, behind the last call, do not count.
  private static List<String> order() throws Exception {
    String text = Files.readString(Path.of("src/main/java/PrefixYard.java"), StandardCharsets.UTF_8);
    List<String> order = new ArrayList<>();
    int calls = 0;
    Matcher matcher = Pattern.compile("(?m)^    // (---- .*)$|^    public (?:int|boolean) (\\w+)\\(").matcher(text);
    while (matcher.find()) {
      order.add(matcher.group(1) == null ? matcher.group(2) : matcher.group(1));
      calls = matcher.group(1) == null ? order.size() : calls;
    }
    return new ArrayList<>(order.subList(0, calls));
  }

  private static String told(Method method) {
    StringBuilder text = new StringBuilder(method.getReturnType() + " " + method.getName() + "(");
    String between = "";
    for (Class<?> parameter : method.getParameterTypes()) {
      text.append(between).append(parameter);
      between = ",";
    }
    text.append(')');
    for (Class<?> thrown : method.getExceptionTypes()) {
      text.append(thrown == IndexOutOfBoundsException.class ? " I" : thrown == IllegalArgumentException.class ? " A"
          : thrown == IllegalStateException.class ? " S" : " ?");
    }
    return text.toString();
  }
}
