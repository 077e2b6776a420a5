/** Promises 17 to 19 and 22 to 25: free, greatestFree, inTheWay, nearest, nearestByRow, owned, blocks. */
public final class QuestionsTest {
  private static final Checks CHECKS = new Checks("QuestionsTest");
  private static final int[] NO_SPANS = {-1, 5, 59, 60, Integer.MAX_VALUE, Integer.MIN_VALUE};
  private static final int[] NO_ADDRESSES = {-1, 4096, Integer.MAX_VALUE, Integer.MIN_VALUE};
  private static final int[] NO_OWNERS = {-1, 8, Integer.MAX_VALUE, Integer.MIN_VALUE};

  public static void main(String[] args) {
    promise17Free();
    promise18GreatestFree();
    promise19InTheWay();
    promise19Refused();
    promises22And23();
    promise24Owned();
    promise25Blocks();
    CHECKS.finish();
  }

  // In the whole 1, 64 @ 0, and 4, 1024 @ 1024; in 1 lie 2, 16 @ 16, and 3, 1 @ 63.
  private static PrefixYard nested() {
    PrefixYard x = new PrefixYard();
    x.carveAt(0, 0, 64, 1);
    x.carveAt(1, 16, 16, 2);
    x.carveAt(1, 63, 1, 1);
    x.carveAt(0, 1024, 1024, 2);
    return x;
  }

  private static void promise17Free() {
    PrefixYard x = nested();
    CHECKS.due("of the whole", x.free(0), 4096 - 64 - 1024);
    CHECKS.due("of one with spans in it", x.free(1), 47);
    CHECKS.due("of one without", x.free(2), 16);
    x.lend(2, 0);
    x.lend(2, 1);
    CHECKS.due("without what is lent", x.free(2), 14);
    CHECKS.due("what is lent in a span in it does not matter", x.free(1), 47);
    x.pass(1);
    CHECKS.due("what is free again", x.free(2), 15);
    x.lend(3, 0);
    CHECKS.due("none", x.free(3), 0);
    PrefixYard y = new PrefixYard();
    y.lend(0, 0);
    CHECKS.due("of the whole, one lent", y.free(0), 4095);
    for (int span : NO_SPANS) {
      CHECKS.refused("free(" + span + ")", Checks.NO_SUCH, QuestionsTest::nested, z -> z.free(span));
    }
  }

  private static void promise18GreatestFree() {
    PrefixYard x = nested();
    CHECKS.due("of the whole", x.greatestFree(0), 2048);
    CHECKS.due("of one with spans in it", x.greatestFree(1), 16);
    CHECKS.due("of one without", x.greatestFree(2), 8);
    CHECKS.due("of one of the size 1", x.greatestFree(3), 0);
    x.lend(2, 0);
    CHECKS.due("what is lent does not matter", x.greatestFree(2), 8);
    x.carveAt(0, 4095, 1, 0);
    CHECKS.due("of the whole then", x.greatestFree(0), 1024);
    PrefixYard y = new PrefixYard();
    CHECKS.due("of an empty whole", y.greatestFree(0), 2048);
    y.carve(0, 2048, 0, 0);
    y.carve(0, 2048, 0, 0);
    CHECKS.due("of a full one", y.greatestFree(0), 0);
    y.carve(1, 2, 0, 0);
    y.carve(3, 1, 0, 0);
    CHECKS.due("of one of the size 2 with a span in it", y.greatestFree(3), 1);
    for (int span : NO_SPANS) {
      CHECKS.refused("greatestFree(" + span + ")", Checks.NO_SUCH, QuestionsTest::nested, z -> z.greatestFree(span));
    }
  }

  private static void promise19InTheWay() {
    PrefixYard x = nested();
    CHECKS.due("one is free", x.inTheWay(0, 2048), 0);
    x.carveAt(0, 4095, 1, 0);
    CHECKS.due("one of two", x.inTheWay(0, 2048), 1);
    x.carveAt(0, 4093, 1, 0);
    CHECKS.due("two each, spans in spans not counted", x.inTheWay(0, 2048), 2);
    CHECKS.due("of 1024", x.inTheWay(0, 1024), 0);
    CHECKS.due("of 32", x.inTheWay(1, 32), 1);
    CHECKS.due("of 16", x.inTheWay(1, 16), 0);
    CHECKS.due("as great as the span", x.inTheWay(1, 64), -1);
    CHECKS.due("greater than the span", x.inTheWay(1, 2048), -1);
    CHECKS.due("of a single address", x.inTheWay(3, 1), -1);
    x.lend(2, 0);
    CHECKS.due("what is lent does not matter", x.inTheWay(2, 8), 0);
    PrefixYard y = new PrefixYard();
    y.carve(0, 2048, 0, 0);
    y.carve(0, 1024, 0, 0);
    y.carve(0, 512, 0, 0);
    y.carve(0, 512, 0, 0);
    CHECKS.due("all full, the size 1", y.inTheWay(0, 1), 1);
    CHECKS.due("all full, the size 1024", y.inTheWay(0, 1024), 1);
    CHECKS.due("all full, the size 2048", y.inTheWay(0, 2048), 1);
    y.carve(1, 2, 0, 0);
    y.carve(5, 1, 0, 0);
    y.carve(5, 1, 0, 0);
    CHECKS.due("the size 1 of 2", y.inTheWay(5, 1), 1);
  }

  private static void promise19Refused() {
    for (int span : NO_SPANS) {
      CHECKS.refused("inTheWay(" + span + ", 3)", Checks.NO_SUCH, QuestionsTest::nested, x -> x.inTheWay(span, 3));
    }
    for (int size : new int[] {0, -1, 3, 96, 4096, Integer.MIN_VALUE, Integer.MAX_VALUE}) {
      CHECKS.refused("inTheWay(1, " + size + ")", Checks.BAD_ARGUMENT, QuestionsTest::nested, x -> x.inTheWay(1, size));
    }
  }

  private static void promises22And23() {
    PrefixYard x = nested();
    int[] addresses = {0, 15, 16, 31, 32, 62, 63, 64, 1023, 1024, 2047, 2048, 4095};
    int[] spans = {1, 1, 2, 2, 1, 1, 3, 0, 0, 4, 4, 0, 0};
    for (int i = 0; i < addresses.length; i++) {
      CHECKS.due("nearest(" + addresses[i] + ")", x.nearest(addresses[i]), spans[i]);
      CHECKS.due("nearestByRow(" + addresses[i] + ")", x.nearestByRow(addresses[i]), spans[i]);
    }
    x.carveAt(2, 20, 4, 0);
    CHECKS.due("carved later", x.nearest(20), 5);
    CHECKS.due("carved later, by the row", x.nearestByRow(20), 5);
    x.carve(4, 1024 / 2, 0, 0);
    CHECKS.due("carved by a way, by the row", x.nearestByRow(1024), 6);
    for (int address : NO_ADDRESSES) {
      CHECKS.refused("nearest(" + address + ")", Checks.NO_SUCH, QuestionsTest::nested, y -> y.nearest(address));
      CHECKS.refused("nearestByRow(" + address + ")", Checks.NO_SUCH, QuestionsTest::nested, y -> y.nearestByRow(address));
    }
  }

  private static void promise24Owned() {
    PrefixYard x = nested();
    CHECKS.due("0", x.owned(0), 4096 - 64 - 1024);
    CHECKS.due("1", x.owned(1), 48);
    CHECKS.due("2", x.owned(2), 1040);
    CHECKS.due("7", x.owned(7), 0);
    x.setOwner(4, 7);
    CHECKS.due("7 then", x.owned(7), 1024);
    for (int owner : NO_OWNERS) {
      CHECKS.refused("owned(" + owner + ")", Checks.BAD_ARGUMENT, QuestionsTest::nested, y -> y.owned(owner));
    }
  }

  private static void promise25Blocks() {
    PrefixYard x = nested();
    CHECKS.due("64 to 1023, and from 2048 on", x.blocks(0), 4 + 1);
    CHECKS.due("0 to 15, and 32 to 63 of two spans", x.blocks(1), 1 + 1);
    CHECKS.due("of two spans apart", x.blocks(2), 2);
    CHECKS.due("none", x.blocks(7), 0);
    x.setOwner(2, 1);
    CHECKS.due("three spans told as one", x.blocks(1), 1);
    x.setOwner(0, 1);
    CHECKS.due("all but 1024", x.blocks(1), 2);
    x.setOwner(4, 1);
    CHECKS.due("all", x.blocks(1), 1);
    PrefixYard y = new PrefixYard();
    y.carveAt(0, 0, 1, 1);
    y.carveAt(0, 4095, 1, 1);
    CHECKS.due("all but the first and the last", y.blocks(0), 22);
    CHECKS.due("the first and the last", y.blocks(1), 2);
    PrefixYard z = new PrefixYard();
    z.carveAt(0, 1, 1, 1);
    z.carveAt(0, 2, 1, 1);
    CHECKS.due("a row of two that begins at no multiple of two", z.blocks(1), 2);
    for (int owner : NO_OWNERS) {
      CHECKS.refused("blocks(" + owner + ")", Checks.BAD_ARGUMENT, QuestionsTest::nested, w -> w.blocks(owner));
    }
  }
}
