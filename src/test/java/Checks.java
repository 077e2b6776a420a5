import java.util.function.Consumer;
import java.util.function.Supplier;

/** What the tests share: counted comparisons, and that a call left everything as it was. */
final class Checks {
  static final Class<?> NO_SUCH = IndexOutOfBoundsException.class;
  static final Class<?> BAD_ARGUMENT = IllegalArgumentException.class;
  static final Class<?> BAD_STATE = IllegalStateException.class;

  private final String name;
  private int asked = 0;
  private int wrong = 0;

  Checks(String name) {
    this.name = name;
  }

  /** A new object with spans carved at places, each told as its parent, base, size and owner. */
  static PrefixYard yard(int[]... spans) {
    PrefixYard x = new PrefixYard();
    for (int[] span : spans) {
      x.carveAt(span[0], span[1], span[2], span[3]);
    }
    return x;
  }

  void due(String what, Object got, Object want) {
    asked++;
    if (!got.equals(want)) {
      wrong++;
      System.out.println(name + ": " + what + " answered " + got + ", due is " + want);
    }
  }

  /** Nothing in the tree of spans is wrong at an address, told both ways. */
  void nearestDue(String what, PrefixYard x, int address, int want) {
    due(what + ": nearest(" + address + ")", x.nearest(address), want);
    due(what + ": nearestByRow(" + address + ")", x.nearestByRow(address), want);
  }

  /** The call throws just that exception, and the object is afterwards as one on which it was not made. */
  void refused(String what, Class<?> want, Supplier<PrefixYard> made, Consumer<PrefixYard> call) {
    due(what, thrownBy(() -> call.accept(made.get())), want.getName());
    unchanged(what, made, call);
  }

  /** The call throws nothing, and the object is afterwards as one on which it was not made. */
  void onlyAnswers(String what, Supplier<PrefixYard> made, Consumer<PrefixYard> call) {
    due(what, thrownBy(() -> call.accept(made.get())), "nothing");
    unchanged(what, made, call);
  }

  private void unchanged(String what, Supplier<PrefixYard> made, Consumer<PrefixYard> call) {
    Supplier<PrefixYard> called = () -> {
      PrefixYard x = made.get();
      thrownBy(() -> call.accept(x));
      return x;
    };
    due("what stands after " + what, Looks.all(called), Looks.all(made));
  }

  static String thrownBy(Runnable call) {
    try {
      call.run();
      return "nothing";
    } catch (RuntimeException e) {
      return e.getClass().getName();
    }
  }

  void finish() {
    System.out.println(name + ": " + asked + " asked, " + wrong + " wrong");
    if (asked == 0 || wrong != 0) {
      System.exit(1);
    }
  }
}
