/** Promises 1 to 3: a new object, carve, carveAt. */
public final class CarvingTest {
  private static final Checks CHECKS = new Checks("CarvingTest");

  public static void main(String[] args) {
    promise1NewObject();
    promise2BestFit();
    promise2MostRoom();
    promise2Apart();
    promise2Sizes();
    promise2Refused();
    promise2InTheState();
    promise3Places();
    promise3Refused();
    promise3InTheState();
    CHECKS.finish();
  }

  private static void promise1NewObject() {
    PrefixYard x = new PrefixYard();
    CHECKS.due("day", x.day(), 0);
    CHECKS.due("spans", x.spans(), 1);
    CHECKS.due("base", x.base(0), 0);
    CHECKS.due("size", x.size(0), 4096);
    CHECKS.due("free", x.free(0), 4096);
    CHECKS.due("owned by 0", x.owned(0), 4096);
    CHECKS.due("lent", x.lent(), 0);
    CHECKS.due("the first number", x.carve(0, 1, 0, 0), 1);
  }

  // Whole free blocks of the whole: 64 @ 64, 128 @ 384, 64 @ 320, 512 @ 512, 1024 @ 2048, 1024 @ 3072 is taken.
  private static PrefixYard patched() {
    PrefixYard x = new PrefixYard();
    x.carveAt(0, 0, 64, 1);
    x.carveAt(0, 128, 128, 1);
    x.carveAt(0, 256, 64, 1);
    x.carveAt(0, 1024, 1024, 1);
    x.carveAt(0, 3072, 1024, 1);
    return x;
  }

  private static void promise2BestFit() {
    PrefixYard x = patched();
    CHECKS.due("least of all, lowest of two", x.base(x.carve(0, 32, 2, 0)), 64);
    CHECKS.due("what is left of it", x.base(x.carve(0, 32, 2, 0)), 96);
    CHECKS.due("the other one", x.base(x.carve(0, 64, 2, 0)), 320);
    CHECKS.due("the next greater one", x.base(x.carve(0, 64, 2, 0)), 384);
    CHECKS.due("one that is too small is not taken", x.base(x.carve(0, 128, 2, 0)), 512);
    CHECKS.due("the greatest one", x.base(x.carve(0, 1024, 2, 0)), 2048);
  }

  private static void promise2MostRoom() {
    PrefixYard x = patched();
    CHECKS.due("the greatest", x.base(x.carve(0, 32, 2, 1)), 2048);
    CHECKS.due("lowest of two of 512", x.base(x.carve(0, 32, 2, 1)), 512);
    CHECKS.due("the other one of 512", x.base(x.carve(0, 512, 2, 1)), 2560);
    PrefixYard y = new PrefixYard();
    CHECKS.due("in an empty span", y.base(y.carve(0, 8, 0, 1)), 0);
  }

  private static void promise2Apart() {
    PrefixYard x = patched();
    CHECKS.due("the second half of the greatest", x.base(x.carve(0, 32, 2, 2)), 2560);
    CHECKS.due("the second half of the lowest of two", x.base(x.carve(0, 512, 2, 2)), 512);
    CHECKS.due("the whole block if it is as great", x.base(x.carve(0, 512, 2, 2)), 2048);
    PrefixYard y = new PrefixYard();
    CHECKS.due("in an empty span", y.base(y.carve(0, 8, 0, 2)), 2048);
    CHECKS.due("in that one", y.base(y.carve(1, 4, 0, 2)), 2052);
    CHECKS.due("of a single address", y.base(y.carve(1, 1, 0, 2)), 2050);
  }

  private static void promise2Sizes() {
    PrefixYard x = new PrefixYard();
    CHECKS.due("number of 2048", x.carve(0, 2048, 7, 0), 1);
    CHECKS.due("number of the other 2048", x.carve(0, 2048, 0, 2), 2);
    CHECKS.due("number of 1", x.carve(2, 1, 5, 1), 3);
    CHECKS.due("size 2048", x.size(1), 2048);
    CHECKS.due("base of the other 2048", x.base(2), 2048);
    CHECKS.due("size 1", x.size(3), 1);
    CHECKS.due("parent of 1", x.parent(3), 2);
    CHECKS.due("owner 7", x.owned(7), 2048);
    CHECKS.due("owner 5", x.owned(5), 1);
    CHECKS.due("owner 0", x.owned(0), 2047);
  }

  private static void promise2Refused() {
    for (int span : new int[] {-1, 6, 59, 60, Integer.MAX_VALUE, Integer.MIN_VALUE}) {
      CHECKS.refused("carve(" + span + ", 3, 8, 3)", Checks.NO_SUCH, CarvingTest::patched, x -> x.carve(span, 3, 8, 3));
    }
    for (int size : new int[] {0, -1, 3, 6, 2047, 4096, Integer.MIN_VALUE, 1 << 30, Integer.MAX_VALUE}) {
      CHECKS.refused("carve(1, " + size + ", 0, 0)", Checks.BAD_ARGUMENT, CarvingTest::patched, x -> x.carve(1, size, 0, 0));
    }
    for (int owner : new int[] {-1, 8, Integer.MAX_VALUE, Integer.MIN_VALUE}) {
      CHECKS.refused("carve(1, 64, " + owner + ", 0)", Checks.BAD_ARGUMENT, CarvingTest::patched, x -> x.carve(1, 64, owner, 0));
    }
    for (int way : new int[] {-1, 3, Integer.MAX_VALUE, Integer.MIN_VALUE}) {
      CHECKS.refused("carve(1, 64, 0, " + way + ")", Checks.BAD_ARGUMENT, CarvingTest::patched, x -> x.carve(1, 64, 0, way));
    }
  }

  private static void promise2InTheState() {
    for (int way = 0; way <= 2; way++) {
      int by = way;
      CHECKS.refused("as great as the span", Checks.BAD_STATE, CarvingTest::patched, x -> x.carve(1, 64, 0, by));
      CHECKS.refused("greater than the span", Checks.BAD_STATE, CarvingTest::patched, x -> x.carve(1, 2048, 0, by));
      CHECKS.refused("no free block of the size", Checks.BAD_STATE, CarvingTest::patched, x -> x.carve(0, 2048, 0, by));
      CHECKS.refused("lent in the span", Checks.BAD_STATE, CarvingTest::lentInFirst, x -> x.carve(1, 1, 0, by));
      CHECKS.refused("60 were made", Checks.BAD_STATE, CarvingTest::sixtyMade, x -> x.carve(0, 1, 0, by));
      CHECKS.refused("60 made, bad way", Checks.BAD_ARGUMENT, CarvingTest::sixtyMade, x -> x.carve(0, 1, 0, 3));
      CHECKS.refused("60 made, no span", Checks.NO_SUCH, CarvingTest::sixtyMade, x -> x.carve(60, 1, 0, by));
    }
    PrefixYard x = lentInFirst();
    CHECKS.due("what is lent in a span in it does not matter", x.carve(0, 64, 0, 0), 6);
    x.takeBack(0);
    CHECKS.due("what was lent does not matter", x.carve(1, 1, 0, 0), 7);
  }

  private static PrefixYard lentInFirst() {
    PrefixYard x = patched();
    x.lend(1, 0);
    return x;
  }

  private static PrefixYard sixtyMade() {
    PrefixYard x = new PrefixYard();
    for (int number = 1; number < 60; number++) {
      x.carve(0, 1, number % 8, 0);
    }
    x.remove(59);
    x.remove(1);
    return x;
  }

  private static void promise3Places() {
    PrefixYard x = new PrefixYard();
    CHECKS.due("the last address", x.carveAt(0, 4095, 1, 7), 1);
    CHECKS.due("the first address", x.carveAt(0, 0, 1, 1), 2);
    CHECKS.due("the second of two", x.carveAt(0, 1, 1, 2), 3);
    CHECKS.due("a block of 1024", x.carveAt(0, 1024, 1024, 3), 4);
    CHECKS.due("the end of that one", x.carveAt(4, 1536, 512, 4), 5);
    CHECKS.due("its base", x.base(5), 1536);
    CHECKS.due("its size", x.size(5), 512);
    CHECKS.due("its parent", x.parent(5), 4);
    CHECKS.due("its owner", x.owned(4), 512);
    PrefixYard y = new PrefixYard();
    CHECKS.due("2048 at 2048", y.carveAt(0, 2048, 2048, 0), 1);
    CHECKS.due("2048 at 0", y.carveAt(0, 0, 2048, 0), 2);
  }

  private static void promise3Refused() {
    for (int span : new int[] {-1, 6, 60, Integer.MAX_VALUE, Integer.MIN_VALUE}) {
      CHECKS.refused("carveAt(" + span + ", -1, 3, 8)", Checks.NO_SUCH, CarvingTest::patched, x -> x.carveAt(span, -1, 3, 8));
    }
    for (int size : new int[] {0, -4, 3, 12, 4096, Integer.MIN_VALUE, Integer.MAX_VALUE}) {
      CHECKS.refused("carveAt(1, 0, " + size + ", 0)", Checks.BAD_ARGUMENT, CarvingTest::patched, x -> x.carveAt(1, 0, size, 0));
    }
    for (int owner : new int[] {-1, 8}) {
      CHECKS.refused("carveAt(1, 0, 64, " + owner + ")", Checks.BAD_ARGUMENT, CarvingTest::patched, x -> x.carveAt(1, 0, 64, owner));
    }
    for (int base : new int[] {-1, -4, 2, 70, Integer.MIN_VALUE, Integer.MAX_VALUE}) {
      CHECKS.refused("carveAt(0, " + base + ", 4, 0)", Checks.BAD_ARGUMENT, CarvingTest::patched, x -> x.carveAt(0, base, 4, 0));
    }
    for (int base : new int[] {4096, 8192, 1 << 30, Integer.MAX_VALUE - 3, 0, 60, 128, 252}) {
      CHECKS.refused("carveAt(0, " + base + ", 4, 0)", Checks.BAD_STATE, CarvingTest::patched, x -> x.carveAt(0, base, 4, 0));
    }
    CHECKS.refused("just below the span", Checks.BAD_STATE, CarvingTest::patched, x -> x.carveAt(2, 124, 4, 0));
    CHECKS.refused("just above the span", Checks.BAD_STATE, CarvingTest::patched, x -> x.carveAt(2, 256, 4, 0));
    CHECKS.refused("a span in the block", Checks.BAD_STATE, CarvingTest::patched, x -> x.carveAt(0, 0, 128, 0));
  }

  private static void promise3InTheState() {
    CHECKS.refused("as great as the span", Checks.BAD_STATE, CarvingTest::patched, x -> x.carveAt(1, 0, 64, 0));
    CHECKS.refused("greater than the span", Checks.BAD_STATE, CarvingTest::patched, x -> x.carveAt(1, 0, 128, 0));
    CHECKS.refused("lent in the span", Checks.BAD_STATE, CarvingTest::lentInFirst, x -> x.carveAt(1, 32, 1, 0));
    CHECKS.refused("lent, and no multiple", Checks.BAD_ARGUMENT, CarvingTest::lentInFirst, x -> x.carveAt(1, 33, 2, 0));
    CHECKS.refused("60 were made", Checks.BAD_STATE, CarvingTest::sixtyMade, x -> x.carveAt(0, 4095, 1, 0));
    PrefixYard x = lentInFirst();
    CHECKS.due("what is lent in a span in it does not matter", x.carveAt(0, 64, 64, 0), 6);
  }
}
