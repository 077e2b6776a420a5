/** Promises 4 to 7 and 12 to 16: remove, grow, halve, setOwner, and what a span is. */
public final class SpansTest {
  private static final Checks CHECKS = new Checks("SpansTest");
  private static final int[] NO_SPANS = {-1, 4, 59, 60, Integer.MAX_VALUE, Integer.MIN_VALUE};

  public static void main(String[] args) {
    promise4Remove();
    promise4Refused();
    promise5Grow();
    promise5Refused();
    promise6Halve();
    promise6Refused();
    promise6Alike();
    rowAfterChanges();
    promise7SetOwner();
    promises12To16();
    CHECKS.finish();
  }

  // In the whole 1, 64 @ 0, and 3, 16 @ 128; in 1 lies 2, 8 @ 16.
  private static PrefixYard nested() {
    PrefixYard x = new PrefixYard();
    x.carveAt(0, 0, 64, 1);
    x.carveAt(1, 16, 8, 2);
    x.carveAt(0, 128, 16, 3);
    return x;
  }

  private static void promise4Remove() {
    PrefixYard x = nested();
    CHECKS.due("remove(2)", x.remove(2), 8);
    CHECKS.due("its addresses are its parent's", x.nearest(16), 1);
    CHECKS.due("also by the row", x.nearestByRow(16), 1);
    CHECKS.due("and their owner's", x.owned(1), 64);
    CHECKS.due("it is not there", x.isThere(2), false);
    CHECKS.due("the others are", x.isThere(3), true);
    CHECKS.due("remove(1)", x.remove(1), 64);
    CHECKS.due("spans", x.spans(), 2);
    CHECKS.due("a number comes once", x.carve(0, 64, 0, 0), 4);
    x.lend(3, 1);
    x.pass(1);
    CHECKS.due("what was lent does not matter", x.remove(3), 16);
  }

  private static void promise4Refused() {
    for (int span : NO_SPANS) {
      CHECKS.refused("remove(" + span + ")", Checks.NO_SUCH, SpansTest::nested, x -> x.remove(span));
    }
    CHECKS.refused("remove(0)", Checks.BAD_STATE, PrefixYard::new, x -> x.remove(0));
    CHECKS.refused("spans in it", Checks.BAD_STATE, SpansTest::nested, x -> x.remove(1));
    CHECKS.refused("lent in it", Checks.BAD_STATE, SpansTest::lentAtEnd, x -> x.remove(3));
    CHECKS.refused("removed before", Checks.NO_SUCH, SpansTest::oneRemoved, x -> x.remove(2));
  }

  private static PrefixYard lentAtEnd() {
    PrefixYard x = nested();
    for (int address = 128; address < 144; address++) {
      x.lend(3, 0);
    }
    for (int address = 128; address < 143; address++) {
      x.takeBack(address);
    }
    return x;
  }

  private static PrefixYard oneRemoved() {
    PrefixYard x = nested();
    x.remove(2);
    return x;
  }

  private static void promise5Grow() {
    PrefixYard x = nested();
    CHECKS.due("upwards and downwards", x.grow(2), 16);
    CHECKS.due("size", x.size(2), 16);
    CHECKS.due("down to the block of twice its size", x.grow(2), 0);
    CHECKS.due("base", x.base(2), 0);
    CHECKS.due("size then", x.size(2), 32);
    CHECKS.due("its addresses", x.nearest(0), 2);
    CHECKS.due("its addresses by the row", x.nearestByRow(31), 2);
    CHECKS.due("not beyond", x.nearestByRow(32), 1);
    CHECKS.due("parent", x.parent(2), 1);
    CHECKS.due("grow(1)", x.grow(1), 0);
    PrefixYard y = new PrefixYard();
    y.carveAt(0, 4095, 1, 1);
    for (int size = 2; size <= 2048; size *= 2) {
      CHECKS.due("from the last address to " + size, y.grow(1), 4096 - size);
    }
    PrefixYard z = new PrefixYard();
    z.carveAt(0, 1, 1, 0);
    CHECKS.due("lend", z.lend(1, 0), 1);
    CHECKS.due("what is lent in it does not matter", z.grow(1), 0);
    CHECKS.due("it is still lent", z.isLent(1), true);
    CHECKS.due("the new one is free", z.lend(1, 0), 0);
  }

  private static void promise5Refused() {
    for (int span : NO_SPANS) {
      CHECKS.refused("grow(" + span + ")", Checks.NO_SUCH, SpansTest::nested, x -> x.grow(span));
    }
    CHECKS.refused("grow(0)", Checks.BAD_STATE, SpansTest::nested, x -> x.grow(0));
    CHECKS.refused("as great as the parent then", Checks.BAD_STATE, () -> carved(1024, 512), x -> x.grow(2));
    CHECKS.refused("as great as the whole then", Checks.BAD_STATE, () -> carved(2048, 1), x -> x.grow(1));
    CHECKS.refused("a span above it", Checks.BAD_STATE, () -> twoAt(0, 1), x -> x.grow(1));
    CHECKS.refused("a span below it", Checks.BAD_STATE, () -> twoAt(0, 1), x -> x.grow(2));
    CHECKS.refused("a greater span beside it", Checks.BAD_STATE, SpansTest::besideGreater, x -> x.grow(2));
    CHECKS.refused("as great as its parent", Checks.BAD_STATE, SpansTest::alike, x -> x.grow(2));
    PrefixYard x = twoAt(1, 2);
    CHECKS.due("a span that is just beside the block", x.grow(1), 0);
    CHECKS.due("and that one", x.grow(2), 2);
  }

  private static PrefixYard carved(int size, int inner) {
    PrefixYard x = new PrefixYard();
    x.carve(0, size, 1, 0);
    x.carve(1, inner, 2, 0);
    return x;
  }

  private static PrefixYard twoAt(int first, int second) {
    PrefixYard x = new PrefixYard();
    x.carveAt(0, first, 1, 1);
    x.carveAt(0, second, 1, 2);
    return x;
  }

  private static PrefixYard besideGreater() {
    PrefixYard x = new PrefixYard();
    x.carveAt(0, 0, 8, 1);
    x.carveAt(0, 8, 8, 2);
    return x;
  }

  // 1, 8 @ 0, and in it 2 with the same addresses, in which lies 3 with the same addresses too.
  private static PrefixYard alike() {
    PrefixYard x = new PrefixYard();
    x.carveAt(0, 0, 32, 1);
    x.carveAt(1, 0, 16, 2);
    x.carveAt(2, 0, 8, 3);
    x.halve(2);
    x.halve(1);
    x.halve(1);
    return x;
  }

  private static void promise6Halve() {
    PrefixYard x = nested();
    CHECKS.due("to just above a span in it", x.halve(1), 32);
    CHECKS.due("size", x.size(1), 32);
    CHECKS.due("base", x.base(1), 0);
    CHECKS.due("the second half is the parent's", x.nearest(32), 0);
    CHECKS.due("also by the row", x.nearestByRow(32), 0);
    CHECKS.due("the first half stays", x.nearestByRow(31), 1);
    CHECKS.due("of 8", x.halve(2), 4);
    CHECKS.due("of 4", x.halve(2), 2);
    CHECKS.due("of 2", x.halve(2), 1);
    x.lend(3, 0);
    CHECKS.due("what is lent in the first half does not matter", x.halve(3), 8);
    CHECKS.due("it is still lent", x.isLent(128), true);
  }

  private static void promise6Refused() {
    for (int span : NO_SPANS) {
      CHECKS.refused("halve(" + span + ")", Checks.NO_SUCH, SpansTest::nested, x -> x.halve(span));
    }
    CHECKS.refused("halve(0)", Checks.BAD_STATE, PrefixYard::new, x -> x.halve(0));
    CHECKS.refused("size 1", Checks.BAD_STATE, () -> twoAt(0, 1), x -> x.halve(2));
    CHECKS.refused("lent at the end", Checks.BAD_STATE, SpansTest::lentAtEnd, x -> x.halve(3));
    CHECKS.refused("lent where the second half begins", Checks.BAD_STATE, SpansTest::lentInTheMiddle, x -> x.halve(1));
    CHECKS.refused("a span in the second half", Checks.BAD_STATE, SpansTest::halvedOnce, x -> x.halve(1));
    CHECKS.refused("a span at the end", Checks.BAD_STATE, SpansTest::spanAtEnd, x -> x.halve(1));
    CHECKS.refused("a span as great as it is", Checks.BAD_STATE, SpansTest::alike, x -> x.halve(1));
  }

  private static PrefixYard lentInTheMiddle() {
    PrefixYard x = new PrefixYard();
    x.carve(0, 4, 0, 0);
    x.lend(1, 0);
    x.lend(1, 0);
    x.lend(1, 0);
    x.takeBack(0);
    x.takeBack(1);
    return x;
  }

  private static PrefixYard halvedOnce() {
    PrefixYard x = nested();
    x.halve(1);
    return x;
  }

  private static PrefixYard spanAtEnd() {
    PrefixYard x = new PrefixYard();
    x.carveAt(0, 0, 64, 1);
    x.carveAt(1, 63, 1, 2);
    return x;
  }

  private static void promise6Alike() {
    PrefixYard x = alike();
    CHECKS.due("size of the parent", x.size(1), 8);
    CHECKS.due("size of the one in it", x.size(2), 8);
    CHECKS.due("size of the one in that", x.size(3), 8);
    CHECKS.due("nearest", x.nearest(7), 3);
    CHECKS.due("nearest by the row", x.nearestByRow(7), 3);
    CHECKS.due("free", x.free(1), 0);
    CHECKS.due("greatestFree", x.greatestFree(1), 0);
    CHECKS.due("in the way", x.inTheWay(1, 4), 1);
    CHECKS.due("owned", x.owned(1), 0);
    CHECKS.due("halve the innermost", x.halve(3), 4);
    CHECKS.due("then the next", x.halve(2), 4);
    CHECKS.due("grow the outermost again", x.grow(1), 0);
    CHECKS.due("its second half is free", x.inTheWay(1, 8), 0);
    CHECKS.due("free then", x.free(1), 12);
  }

  // The row is asked for before and after each change, as it could stand from before.
  private static void rowAfterChanges() {
    PrefixYard x = nested();
    CHECKS.due("row of 3 spans", x.nearestByRow(16), 2);
    x.grow(2);
    CHECKS.due("row of one that grew", x.nearestByRow(31), 2);
    x.halve(2);
    CHECKS.due("row of one that was halved", x.nearestByRow(31), 1);
    x.remove(2);
    CHECKS.due("row without one that was removed", x.nearestByRow(16), 1);
    x.carve(3, 8, 0, 0);
    CHECKS.due("row with one that was carved", x.nearestByRow(128), 4);
    x.carveAt(3, 140, 4, 0);
    CHECKS.due("row with one that was carved at a place", x.nearestByRow(140), 5);
  }

  private static void promise7SetOwner() {
    PrefixYard x = nested();
    CHECKS.due("setOwner(2, 7)", x.setOwner(2, 7), 2);
    CHECKS.due("its addresses", x.owned(7), 8);
    CHECKS.due("the owner before has none", x.owned(2), 0);
    CHECKS.due("the row sees it", x.blocks(7), 1);
    CHECKS.due("once more", x.setOwner(2, 0), 7);
    CHECKS.due("the same again", x.setOwner(2, 0), 0);
    CHECKS.due("the whole's", x.setOwner(0, 5), 0);
    CHECKS.due("the whole's addresses", x.owned(5), 4096 - 64 - 16);
    for (int span : NO_SPANS) {
      CHECKS.refused("setOwner(" + span + ", 8)", Checks.NO_SUCH, SpansTest::nested, y -> y.setOwner(span, 8));
    }
    for (int owner : new int[] {-1, 8, Integer.MAX_VALUE, Integer.MIN_VALUE}) {
      CHECKS.refused("setOwner(1, " + owner + ")", Checks.BAD_ARGUMENT, SpansTest::nested, y -> y.setOwner(1, owner));
    }
  }

  private static void promises12To16() {
    PrefixYard x = nested();
    CHECKS.due("spans", x.spans(), 4);
    x.remove(2);
    CHECKS.due("spans after one went", x.spans(), 3);
    CHECKS.due("isThere(0)", x.isThere(0), true);
    CHECKS.due("isThere(2)", x.isThere(2), false);
    CHECKS.due("isThere(3)", x.isThere(3), true);
    CHECKS.due("base(3)", x.base(3), 128);
    CHECKS.due("size(3)", x.size(3), 16);
    CHECKS.due("parent(3)", x.parent(3), 0);
    CHECKS.due("parent(0)", x.parent(0), -1);
    x.carveAt(3, 128, 1, 0);
    CHECKS.due("parent(4)", x.parent(4), 3);
    for (int span : NO_SPANS) {
      CHECKS.due("isThere(" + span + ")", nested().isThere(span), false);
      CHECKS.refused("base(" + span + ")", Checks.NO_SUCH, SpansTest::nested, y -> y.base(span));
      CHECKS.refused("size(" + span + ")", Checks.NO_SUCH, SpansTest::nested, y -> y.size(span));
      CHECKS.refused("parent(" + span + ")", Checks.NO_SUCH, SpansTest::nested, y -> y.parent(span));
    }
    CHECKS.refused("base of one that is gone", Checks.NO_SUCH, SpansTest::oneRemoved, y -> y.base(2));
  }
}
