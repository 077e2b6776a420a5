import java.util.function.Consumer;
import java.util.function.Supplier;

/** What the tests share: counted comparisons, and what must be seen of an object after a call that throws. */
final class Checks {
  static final Class<?> NO_SUCH = IndexOutOfBoundsException.class;
  static final Class<?> BAD_ARGUMENT = IllegalArgumentException.class;
  static final Class<?> BAD_STATE = IllegalStateException.class;

  private final String name;
  private int asked = 0;
  private int wrong = 0;

  Checks(String name) {
    this.name = name;
  }

  void due(String what, Object got, Object want) {
    asked++;
    if (!got.equals(want)) {
      wrong++;
      System.out.println(name + ": " + what + " answered " + got + ", due is " + want);
    }
  }

  /** The call throws just that exception, and the object is afterwards as one on which it was not made. */
  void refused(String what, Class<?> want, Supplier<PrefixYard> made, Consumer<PrefixYard> call) {
    PrefixYard refusing = made.get();
    due(what, thrownBy(() -> call.accept(refusing)), want.getName());
    due("what stands after " + what, seen(refusing), seen(made.get()));
  }

  static String thrownBy(Runnable call) {
    try {
      call.run();
      return "nothing";
    } catch (RuntimeException e) {
      return e.getClass().getName();
    }
  }

  void finish() {
    System.out.println(name + ": " + asked + " asked, " + wrong + " wrong");
    if (asked == 0 || wrong != 0) {
      System.exit(1);
    }
  }

  // Some 250 calls, as an object is used for 512 at most; the last ones change it, so that the
  // days of what is lent and the number of the next span are seen too.
  private static String seen(PrefixYard x) {
    StringBuilder all = new StringBuilder();
    all.append(x.day()).append(' ').append(x.spans()).append(' ').append(x.lent());
    int looked = 0;
    for (int span = 0; span < 61; span++) {
      boolean there = x.isThere(span);
      all.append(there ? '+' : '-');
      if (there && looked < 12) {
        looked++;
        all.append(x.base(span)).append(' ').append(x.size(span)).append(' ').append(x.parent(span));
        all.append(' ').append(x.free(span)).append(' ').append(x.greatestFree(span));
      }
    }
    for (int owner = 0; owner < 8; owner++) {
      all.append(" o").append(x.owned(owner)).append(' ').append(x.blocks(owner));
    }
    for (int address = 0; address < 30; address++) {
      boolean lent = x.isLent(address);
      all.append(lent ? " l" : " f");
      if (lent) {
        all.append(x.takeBack(address));
      }
    }
    all.append(" next ").append(thrownBy(() -> all.append(x.carveAt(0, 4095, 1, 7))));
    return all.toString();
  }
}
