import java.util.function.IntSupplier;

/**
 * Long runs of calls, right and wrong ones mixed, on an object and on the model: all answers and
 * exceptions are alike, so that what an exception changed or left would be seen later in the run.
 */
public final class ModelTest {
  private static final Checks CHECKS = new Checks("ModelTest");
  private static final int RUNS = 300;
  private static final int CALLS = 512;

  private long state = 20261120L;
  private PrefixYard x;
  private Model m;

  public static void main(String[] args) {
    ModelTest test = new ModelTest();
    for (int run = 0; run < RUNS; run++) {
      test.run(run);
    }
    CHECKS.finish();
  }

  // The numbers are always the same: a written-out row of them, in place of a random source.
  private int upTo(int bound) {
    state = state * 6364136223846793005L + 1442695040888963407L;
    return (int) ((state >>> 33) % bound);
  }

  private void run(int run) {
    x = new PrefixYard();
    m = new Model();
    int carving = 2 + run % 7;
    for (int call = 0; call < CALLS; call++) {
      int kind = upTo(34 + carving);
      if (kind < carving) {
        carve(run, call);
      } else if (kind < carving + 18) {
        change(run, call, kind - carving);
      } else {
        ask(run, call, kind - carving - 18);
      }
    }
  }

  private void alike(String what, IntSupplier got, IntSupplier want) {
    CHECKS.due(what, answer(got), answer(want));
  }

  private static String answer(IntSupplier call) {
    StringBuilder text = new StringBuilder();
    String thrown = Checks.thrownBy(() -> text.append(call.getAsInt()));
    return text.length() > 0 ? text.toString() : thrown;
  }

  // Nearly always a span that was made, and often one of the last.
  private int span() {
    int kind = upTo(30);
    if (kind == 0) {
      return upTo(64) - 2;
    }
    return kind < 12 ? Math.max(0, m.made() - 1 - upTo(4)) : upTo(m.made());
  }

  private int size() {
    return upTo(40) == 0 ? upTo(5000) - 10 : 1 << upTo(12);
  }

  private int owner() {
    return upTo(40) == 0 ? upTo(20) - 6 : upTo(8);
  }

  // Nearly always a base in a span.
  private int addressIn(int span) {
    if (m.isThere(span) == 0 || upTo(8) == 0) {
      return upTo(4100) - 2;
    }
    Model.Node node = m.node(span);
    return node.base + upTo(node.size);
  }

  private void carve(int run, int call) {
    int span = span();
    int owner = owner();
    int size = size();
    if (m.isThere(span) == 1 && m.node(span).size > 1 && upTo(4) > 0) {
      size = 1 << upTo(Integer.numberOfTrailingZeros(m.node(span).size));
    }
    int s = size;
    String where = "run " + run + ", call " + call + ": ";
    if (upTo(2) == 0) {
      int way = upTo(40) == 0 ? upTo(9) - 3 : upTo(3);
      alike(where + "carve(" + span + ", " + s + ", " + owner + ", " + way + ")",
          () -> x.carve(span, s, owner, way), () -> m.carve(span, s, owner, way));
    } else {
      int address = addressIn(span);
      int base = upTo(12) == 0 ? address : address & -s;
      alike(where + "carveAt(" + span + ", " + base + ", " + s + ", " + owner + ")",
          () -> x.carveAt(span, base, s, owner), () -> m.carveAt(span, base, s, owner));
    }
  }

  private void change(int run, int call, int kind) {
    String where = "run " + run + ", call " + call + ": ";
    int span = span();
    int owner = owner();
    int days = upTo(30) == 0 ? upTo(300) - 100 : upTo(4) == 0 ? 0 : 1 + upTo(upTo(3) == 0 ? 100 : 8);
    int passing = upTo(30) == 0 ? upTo(2000) - 500 : 1 + upTo(5);
    int address = addressIn(span);
    if (kind < 1) {
      alike(where + "remove(" + span + ")", () -> x.remove(span), () -> m.remove(span));
    } else if (kind < 5) {
      alike(where + "grow(" + span + ")", () -> x.grow(span), () -> m.grow(span));
    } else if (kind < 9) {
      alike(where + "halve(" + span + ")", () -> x.halve(span), () -> m.halve(span));
    } else if (kind < 10) {
      alike(where + "setOwner(" + span + ", " + owner + ")",
          () -> x.setOwner(span, owner), () -> m.setOwner(span, owner));
    } else if (kind < 14) {
      alike(where + "lend(" + span + ", " + days + ")", () -> x.lend(span, days), () -> m.lend(span, days));
    } else if (kind < 17) {
      alike(where + "takeBack(" + address + ")", () -> x.takeBack(address), () -> m.takeBack(address));
    } else {
      alike(where + "pass(" + passing + ")", () -> x.pass(passing), () -> m.pass(passing));
    }
  }

  private void ask(int run, int call, int kind) {
    String where = "run " + run + ", call " + call + ": ";
    int span = span();
    int size = size();
    int owner = owner();
    int address = addressIn(span);
    switch (kind) {
      case 0 -> alike(where + "day()", x::day, m::day);
      case 1 -> alike(where + "spans()", x::spans, m::spans);
      case 2 -> alike(where + "isThere(" + span + ")", () -> x.isThere(span) ? 1 : 0, () -> m.isThere(span));
      case 3 -> alike(where + "base(" + span + ")", () -> x.base(span), () -> m.node(span).base);
      case 4 -> alike(where + "size(" + span + ")", () -> x.size(span), () -> m.node(span).size);
      case 5 -> alike(where + "parent(" + span + ")", () -> x.parent(span), () -> m.parent(span));
      case 6 -> alike(where + "free(" + span + ")", () -> x.free(span), () -> m.free(span));
      case 7 -> alike(where + "greatestFree(" + span + ")", () -> x.greatestFree(span), () -> m.greatestFree(span));
      case 8, 9 -> alike(where + "inTheWay(" + span + ", " + size + ")",
          () -> x.inTheWay(span, size), () -> m.inTheWay(span, size));
      case 10 -> alike(where + "lent()", x::lent, m::lent);
      case 11 -> alike(where + "isLent(" + address + ")", () -> x.isLent(address) ? 1 : 0, () -> m.lentAt(address));
      case 12 -> alike(where + "nearest(" + address + ")", () -> x.nearest(address), () -> m.nearest(address));
      case 13 -> alike(where + "nearestByRow(" + address + ")",
          () -> x.nearestByRow(address), () -> m.nearest(address));
      case 14 -> alike(where + "owned(" + owner + ")", () -> x.owned(owner), () -> m.owned(owner));
      default -> alike(where + "blocks(" + owner + ")", () -> x.blocks(owner), () -> m.blocks(owner));
    }
  }
}
