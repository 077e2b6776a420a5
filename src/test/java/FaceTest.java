import java.lang.reflect.Constructor;
import java.lang.reflect.Field;
import java.lang.reflect.Method;
import java.lang.reflect.Modifier;
import java.util.TreeSet;

/** The public face is just that of the document, its throws clauses in their order included. */
public final class FaceTest {
  private static final String[] FACE = {
    "int carve(int,int,int,int) I A S", "int carveAt(int,int,int,int) I A S", "int remove(int) I S",
    "int grow(int) I S", "int halve(int) I S", "int setOwner(int,int) I A", "int lend(int,int) I A S",
    "int takeBack(int) I S", "int pass(int) A S", "int day()", "int spans()", "boolean isThere(int)",
    "int base(int) I", "int size(int) I", "int parent(int) I", "int free(int) I", "int greatestFree(int) I",
    "int inTheWay(int,int) I A", "int lent()", "boolean isLent(int) I", "int nearest(int) I",
    "int nearestByRow(int) I", "int owned(int) A", "int blocks(int) A"
  };

  public static void main(String[] args) {
    Checks checks = new Checks("FaceTest");
    TreeSet<String> want = new TreeSet<>();
    for (String method : FACE) {
      want.add(method);
    }
    TreeSet<String> got = new TreeSet<>();
    TreeSet<String> publicNames = new TreeSet<>();
    for (Method method : PrefixYard.class.getDeclaredMethods()) {
      if (!Modifier.isPrivate(method.getModifiers())) {
        got.add(told(method));
        publicNames.add(method.getName());
      }
    }
    checks.due("the methods", got, want);
    for (Method method : PrefixYard.class.getDeclaredMethods()) {
      if (Modifier.isPrivate(method.getModifiers())) {
        checks.due("a public name of private " + method.getName(), publicNames.contains(method.getName()), false);
      }
    }
    Constructor<?>[] constructors = PrefixYard.class.getDeclaredConstructors();
    checks.due("constructors", constructors.length, 1);
    checks.due("the constructor", constructors[0].toString(), "public PrefixYard()");
    for (Field field : PrefixYard.class.getDeclaredFields()) {
      checks.due("private field " + field.getName(), Modifier.isPrivate(field.getModifiers()), true);
    }
    checks.due("the class", Modifier.toString(PrefixYard.class.getModifiers()), "public final");
    checks.finish();
  }

  private static String told(Method method) {
    StringBuilder text = new StringBuilder(method.getReturnType() + " " + method.getName() + "(");
    String between = "";
    for (Class<?> parameter : method.getParameterTypes()) {
      text.append(between).append(parameter);
      between = ",";
    }
    text.append(')');
    for (Class<?> thrown : method.getExceptionTypes()) {
      text.append(thrown == IndexOutOfBoundsException.class ? " I" : thrown == IllegalArgumentException.class ? " A"
          : thrown == IllegalStateException.class ? " S" : " ?");
    }
    return text.toString();
  }
}
