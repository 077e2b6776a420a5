import java.util.function.BiConsumer;
import java.util.function.Consumer;

/** Of each parameter of each call the least and the greatest value, and what lies next to them outside. */
public final class RangesTest {
  private static final Checks CHECKS = new Checks("RangesTest");
  private static final int LEAST = Integer.MIN_VALUE;
  private static final int GREATEST = Integer.MAX_VALUE;
  // Next to 1 and 2048, no powers of 2 between them, and what would be one by its bits alone.
  private static final int[] NO_SIZES = {0, -1, 3, 5, 6, 7, 9, 12, 15, 17, 31, 33, 63, 65, 127, 129, 255, 257, 511, 513,
    1023, 1025, 2047, 2049, 3072, 4095, 4096, 4097, 8192, 1 << 30, -2, -2048, LEAST, LEAST + 1, GREATEST};

  public static void main(String[] args) {
    spans();
    goneAndNotYetMade();
    anyNumber();
    sizesOfCarve();
    sizesOfCarveAt();
    sizesOfInTheWay();
    owners();
    ways();
    bases();
    daysOfLend();
    daysOfPass();
    addresses();
    CHECKS.finish();
  }

  // ---- spans: 0 to 59, as far as they were made and are there.

  // All calls that take a span, so called that nothing but the span can be wrong.
  private static void eachSpanCall(BiConsumer<String, BiConsumer<PrefixYard, Integer>> told) {
    told.accept("carve", (x, span) -> x.carve(span, 1, 0, 0));
    told.accept("carveAt", (x, span) -> x.carveAt(span, 0, 1, 0));
    told.accept("remove", (x, span) -> x.remove(span));
    told.accept("grow", (x, span) -> x.grow(span));
    told.accept("halve", (x, span) -> x.halve(span));
    told.accept("setOwner", (x, span) -> x.setOwner(span, 1));
    told.accept("lend", (x, span) -> x.lend(span, 1));
    told.accept("base", (x, span) -> x.base(span));
    told.accept("size", (x, span) -> x.size(span));
    told.accept("parent", (x, span) -> x.parent(span));
    told.accept("free", (x, span) -> x.free(span));
    told.accept("greatestFree", (x, span) -> x.greatestFree(span));
    told.accept("inTheWay", (x, span) -> x.inTheWay(span, 1));
  }

  private static PrefixYard three() {
    return Checks.yard(new int[] {0, 0, 64, 1}, new int[] {1, 16, 16, 2}, new int[] {0, 128, 32, 3});
  }

  private static void spans() {
    for (int span : new int[] {-1, 4, 5, 59, 60, 61, 4096, LEAST, GREATEST}) {
      eachSpanCall((name, call) -> CHECKS.refused(name + " of " + span + " with 3 carved", Checks.NO_SUCH,
          RangesTest::three, x -> call.accept(x, span)));
    }
    for (int span : new int[] {-1, 60, 61, LEAST, GREATEST}) {
      eachSpanCall((name, call) -> CHECKS.refused(name + " of " + span + " with all made", Checks.NO_SUCH,
          () -> TermsTest.made(60), x -> call.accept(x, span)));
    }
    PrefixYard x = TermsTest.made(60);
    CHECKS.due("base of the greatest", x.base(59), 58);
    CHECKS.due("size of it", x.size(59), 1);
    CHECKS.due("parent of it", x.parent(59), 0);
    CHECKS.due("free of it", x.free(59), 1);
    CHECKS.due("greatestFree of it", x.greatestFree(59), 0);
    CHECKS.due("inTheWay of it", x.inTheWay(59, 1), -1);
    CHECKS.due("setOwner of it", x.setOwner(59, 1), 3);
    CHECKS.due("lend of it", x.lend(59, 1), 58);
    CHECKS.due("grow of it", x.grow(59), 58);
    CHECKS.due("halve of it", x.halve(59), 1);
    CHECKS.due("carve in it is refused by another rule", Checks.thrownBy(() -> x.carve(59, 1, 0, 0)),
        Checks.BAD_STATE.getName());
    x.takeBack(58);
    CHECKS.due("remove of it", x.remove(59), 1);
    PrefixYard y = new PrefixYard();
    CHECKS.due("base of the least", y.base(0), 0);
    CHECKS.due("size of it", y.size(0), 4096);
    CHECKS.due("parent of it", y.parent(0), -1);
    CHECKS.due("free of it", y.free(0), 4096);
    CHECKS.due("greatestFree of it", y.greatestFree(0), 2048);
    CHECKS.due("inTheWay of it", y.inTheWay(0, 1), 0);
    CHECKS.due("setOwner of it", y.setOwner(0, 1), 0);
    CHECKS.due("lend of it", y.lend(0, 1), 0);
    y.takeBack(0);
    CHECKS.due("carve in it", y.carve(0, 1, 0, 0), 1);
    CHECKS.due("carveAt in it", y.carveAt(0, 1, 1, 0), 2);
  }

  private static PrefixYard secondGone() {
    PrefixYard x = three();
    x.remove(2);
    return x;
  }

  private static void goneAndNotYetMade() {
    eachSpanCall((name, call) -> CHECKS.refused(name + " of one that is gone", Checks.NO_SUCH, RangesTest::secondGone,
        x -> call.accept(x, 2)));
    eachSpanCall((name, call) -> CHECKS.refused(name + " of the next one to be made", Checks.NO_SUCH,
        RangesTest::secondGone, x -> call.accept(x, 4)));
    eachSpanCall((name, call) -> CHECKS.refused(name + " of 1 in a new object", Checks.NO_SUCH, PrefixYard::new,
        x -> call.accept(x, 1)));
    PrefixYard x = secondGone();
    CHECKS.due("below one that is gone", x.size(1), 64);
    CHECKS.due("above one that is gone", x.size(3), 32);
  }

  private static void anyNumber() {
    for (int number : new int[] {-1, 2, 4, 59, 60, 4096, LEAST, GREATEST}) {
      CHECKS.due("isThere(" + number + ")", secondGone().isThere(number), false);
    }
    CHECKS.due("isThere(0)", secondGone().isThere(0), true);
    CHECKS.due("isThere(1)", secondGone().isThere(1), true);
    CHECKS.due("isThere(3)", secondGone().isThere(3), true);
    CHECKS.due("isThere(59)", TermsTest.made(60).isThere(59), true);
    CHECKS.due("isThere(59) before it is made", TermsTest.made(59).isThere(59), false);
  }

  // ---- sizes: 1 to 2048, a power of 2.

  private static void sizesOfCarve() {
    for (int size = 1; size <= 2048; size *= 2) {
      for (int way = 0; way <= 2; way++) {
        PrefixYard x = new PrefixYard();
        CHECKS.due("carve of " + size, x.size(x.carve(0, size, 1, way)), size);
        CHECKS.due("owned then", x.owned(1), size);
      }
    }
    for (int size : NO_SIZES) {
      CHECKS.refused("carve of " + size, Checks.BAD_ARGUMENT, PrefixYard::new, x -> x.carve(0, size, 1, 0));
    }
  }

  private static void sizesOfCarveAt() {
    for (int size = 1; size <= 2048; size *= 2) {
      PrefixYard x = new PrefixYard();
      CHECKS.due("carveAt of " + size, x.size(x.carveAt(0, 0, size, 1)), size);
      CHECKS.due("owned then", x.owned(1), size);
    }
    for (int size : NO_SIZES) {
      CHECKS.refused("carveAt of " + size, Checks.BAD_ARGUMENT, PrefixYard::new, x -> x.carveAt(0, 0, size, 1));
    }
  }

  private static void sizesOfInTheWay() {
    for (int size = 1; size <= 2048; size *= 2) {
      CHECKS.due("inTheWay of " + size, new PrefixYard().inTheWay(0, size), 0);
      PrefixYard x = Checks.yard(new int[] {0, 0, size, 1});
      CHECKS.due("of the size of the span", x.inTheWay(1, size), -1);
      CHECKS.due("of 2048", x.inTheWay(1, 2048), -1);
      if (size > 1) {
        CHECKS.due("of half the size of the span", x.inTheWay(1, size / 2), 0);
      }
    }
    for (int size : NO_SIZES) {
      CHECKS.refused("inTheWay of " + size, Checks.BAD_ARGUMENT, RangesTest::three, x -> x.inTheWay(0, size));
      CHECKS.refused("inTheWay of " + size + " in less", Checks.BAD_ARGUMENT, RangesTest::three,
          x -> x.inTheWay(2, size));
    }
  }

  // ---- owners: 0 to 7, and ways: 0 to 2.

  private static void owners() {
    for (int owner : new int[] {0, 7}) {
      PrefixYard x = three();
      int before = x.owned(owner);
      x.carve(1, 4, owner, 0);
      CHECKS.due("carve for " + owner, x.owned(owner), owner == 0 ? before + 4 : 4);
      x.carveAt(1, 48, 8, owner);
      CHECKS.due("carveAt for " + owner, x.owned(owner), owner == 0 ? before + 12 : 12);
      CHECKS.due("setOwner to " + owner, x.setOwner(3, owner), 3);
      CHECKS.due("setOwner again", x.setOwner(3, 1), owner);
      CHECKS.due("blocks of " + owner, x.blocks(owner) > 0, true);
    }
    for (int owner : new int[] {-1, 8, 9, LEAST, GREATEST}) {
      CHECKS.refused("carve for " + owner, Checks.BAD_ARGUMENT, RangesTest::three, x -> x.carve(1, 4, owner, 0));
      CHECKS.refused("carveAt for " + owner, Checks.BAD_ARGUMENT, RangesTest::three, x -> x.carveAt(1, 48, 4, owner));
      CHECKS.refused("setOwner to " + owner, Checks.BAD_ARGUMENT, RangesTest::three, x -> x.setOwner(1, owner));
      CHECKS.refused("owned(" + owner + ")", Checks.BAD_ARGUMENT, RangesTest::three, x -> x.owned(owner));
      CHECKS.refused("blocks(" + owner + ")", Checks.BAD_ARGUMENT, RangesTest::three, x -> x.blocks(owner));
    }
  }

  // Free in 1 are 16 @ 0 and 32 @ 32: each way takes another place.
  private static void ways() {
    int[] bases = {0, 32, 48};
    for (int way = 0; way <= 2; way++) {
      PrefixYard x = three();
      CHECKS.due("by the way " + way, x.base(x.carve(1, 4, 0, way)), bases[way]);
    }
    for (int way : new int[] {-1, 3, 4, LEAST, GREATEST}) {
      CHECKS.refused("by the way " + way, Checks.BAD_ARGUMENT, RangesTest::three, x -> x.carve(1, 4, 0, way));
    }
  }

  // ---- bases: from 0 on, multiples of the size.

  private static void bases() {
    for (int size = 1; size <= 2048; size *= 2) {
      int by = size;
      CHECKS.due("the least for " + size, Checks.yard(new int[] {0, 0, size, 0}).base(1), 0);
      CHECKS.due("the next for " + size, Checks.yard(new int[] {0, size, size, 0}).base(1), size);
      CHECKS.due("the greatest for " + size, Checks.yard(new int[] {0, 4096 - size, size, 0}).base(1), 4096 - size);
      CHECKS.refused("above it for " + size, Checks.BAD_STATE, PrefixYard::new, x -> x.carveAt(0, 4096, by, 0));
      CHECKS.refused("below 0 for " + size, Checks.BAD_ARGUMENT, PrefixYard::new, x -> x.carveAt(0, -by, by, 0));
      CHECKS.refused("-1 for " + size, Checks.BAD_ARGUMENT, PrefixYard::new, x -> x.carveAt(0, -1, by, 0));
      CHECKS.refused("the least int for " + size, Checks.BAD_ARGUMENT, PrefixYard::new,
          x -> x.carveAt(0, LEAST, by, 0));
      CHECKS.refused("the last multiple for " + size, Checks.BAD_STATE, PrefixYard::new,
          x -> x.carveAt(0, GREATEST - by + 1, by, 0));
      if (size > 1) {
        CHECKS.refused("half of " + size, Checks.BAD_ARGUMENT, PrefixYard::new, x -> x.carveAt(0, by / 2, by, 0));
        CHECKS.refused("1 for " + size, Checks.BAD_ARGUMENT, PrefixYard::new, x -> x.carveAt(0, 1, by, 0));
        CHECKS.refused("one less than " + size, Checks.BAD_ARGUMENT, PrefixYard::new, x -> x.carveAt(0, by - 1, by, 0));
        CHECKS.refused("one more than " + size, Checks.BAD_ARGUMENT, PrefixYard::new, x -> x.carveAt(0, by + 1, by, 0));
        CHECKS.refused("4095 for " + size, Checks.BAD_ARGUMENT, PrefixYard::new, x -> x.carveAt(0, 4095, by, 0));
        CHECKS.refused("the greatest int for " + size, Checks.BAD_ARGUMENT, PrefixYard::new,
            x -> x.carveAt(0, GREATEST, by, 0));
      }
    }
  }

  // ---- days: 0 to 100 to lend, 1 to 1000 to go by.

  private static void daysOfLend() {
    for (int days : new int[] {0, 1, 2, 99, 100}) {
      PrefixYard x = three();
      CHECKS.due("lend for " + days, x.lend(2, days), 16);
      CHECKS.due("those days", x.takeBack(16), days);
    }
    for (int days : new int[] {-1, -2, 101, 102, 1000, LEAST, GREATEST}) {
      CHECKS.refused("lend for " + days, Checks.BAD_ARGUMENT, RangesTest::three, x -> x.lend(2, days));
    }
  }

  private static PrefixYard threeLent() {
    PrefixYard x = three();
    x.lend(2, 1);
    x.lend(2, 100);
    x.lend(2, 0);
    return x;
  }

  private static void daysOfPass() {
    int[] days = {1, 2, 99, 100, 999, 1000};
    int[] freed = {1, 1, 1, 2, 2, 2};
    for (int i = 0; i < days.length; i++) {
      PrefixYard x = threeLent();
      CHECKS.due("pass(" + days[i] + ")", x.pass(days[i]), freed[i]);
      CHECKS.due("the day then", x.day(), days[i]);
    }
    for (int gone : new int[] {0, -1, 1001, 1002, 100000, 100001, LEAST, GREATEST}) {
      CHECKS.refused("pass(" + gone + ")", Checks.BAD_ARGUMENT, RangesTest::threeLent, x -> x.pass(gone));
    }
  }

  // ---- addresses: 0 to 4095.

  private static PrefixYard endsLent() {
    PrefixYard x = Checks.yard(new int[] {0, 0, 1, 1}, new int[] {0, 4095, 1, 2});
    x.lend(1, 7);
    x.lend(2, 0);
    return x;
  }

  private static void eachAddressCall(int address, String what, BiConsumer<String, Consumer<PrefixYard>> told) {
    told.accept("takeBack of " + what, x -> x.takeBack(address));
    told.accept("isLent of " + what, x -> x.isLent(address));
    told.accept("nearest of " + what, x -> x.nearest(address));
    told.accept("nearestByRow of " + what, x -> x.nearestByRow(address));
  }

  private static void addresses() {
    PrefixYard x = endsLent();
    CHECKS.nearestDue("the least", x, 0, 1);
    CHECKS.nearestDue("the next", x, 1, 0);
    CHECKS.nearestDue("the last but one", x, 4094, 0);
    CHECKS.nearestDue("the greatest", x, 4095, 2);
    CHECKS.due("isLent of the least", x.isLent(0), true);
    CHECKS.due("isLent of the next", x.isLent(1), false);
    CHECKS.due("isLent of the last but one", x.isLent(4094), false);
    CHECKS.due("isLent of the greatest", x.isLent(4095), true);
    CHECKS.due("takeBack of the least", x.takeBack(0), 7);
    CHECKS.due("takeBack of the greatest", x.takeBack(4095), 0);
    for (int address : new int[] {-1, -2, 4096, 4097, LEAST, GREATEST}) {
      eachAddressCall(address, "" + address,
          (name, call) -> CHECKS.refused(name, Checks.NO_SUCH, RangesTest::endsLent, call));
    }
  }
}
