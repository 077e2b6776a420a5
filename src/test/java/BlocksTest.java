/** The sentences of "Terms" on blocks and on carving by each way, at their edges and over all sets of 16 addresses. */
public final class BlocksTest {
  private static final Checks CHECKS = new Checks("BlocksTest");
  private static final int BEST_FIT = 0;
  private static final int MOST_ROOM = 1;
  private static final int APART = 2;

  public static void main(String[] args) {
    aBlockIsFree();
    inASpanWhollyFree();
    inASpanWithoutAnyFreeBlock();
    aBlockAsGreatAsIsAsked();
    aBlockThatIsGreater();
    severalBlocksOfOneSize();
    bestFitTakesTheLeast();
    mostRoomTakesTheGreatest();
    apartTakesTheSecondHalf();
    aWholeBlockIsNoHalfOfAFreeOne();
    aBlockBesideTheSpanDoesNotMatter();
    theSizesAskedForAreLookedAt();
    greatestFreeIsNotTheSpanItself();
    theLeastNumberInTheWay();
    allSetsOf16Addresses();
    CHECKS.finish();
  }

  // ---- free blocks.

  // In the whole 1, 16 @ 16, and in it 2, 2 @ 20.
  private static PrefixYard twoAt20() {
    return Checks.yard(new int[] {0, 16, 16, 1}, new int[] {1, 20, 2, 2});
  }

  // Each block at 0 to 47 that is less than the span.
  private static void aBlockIsFree() {
    for (int size = 1; size <= 8; size *= 2) {
      for (int base = 0; base < 48; base += size) {
        int at = base;
        int by = size;
        String what = size + " @ " + base;
        boolean lies = base >= 16 && base + size <= 32;
        if (lies && (base + size <= 20 || base >= 22)) {
          CHECKS.due(what, twoAt20().carveAt(1, base, size, 3), 3);
        } else {
          CHECKS.refused(what, Checks.BAD_STATE, BlocksTest::twoAt20, x -> x.carveAt(1, at, by, 3));
        }
      }
    }
    PrefixYard x = twoAt20();
    x.carveAt(2, 20, 1, 3);
    CHECKS.refused("a block of a span in the span", Checks.BAD_STATE, BlocksTest::twoAt20, y -> y.carveAt(1, 20, 1, 3));
    CHECKS.due("free in the span in it", x.carveAt(2, 21, 1, 3), 4);
    x.remove(3);
    x.remove(4);
    x.remove(2);
    CHECKS.due("free again as that span is gone", x.carveAt(1, 20, 2, 3), 5);
  }

  private static PrefixYard eightAt8() {
    return Checks.yard(new int[] {0, 8, 8, 1});
  }

  private static int carvedBase(PrefixYard x, int parent, int size, int way) {
    return x.base(x.carve(parent, size, 0, way));
  }

  private static void inASpanWhollyFree() {
    for (int size = 1; size <= 4; size *= 2) {
      CHECKS.due("best fit of " + size, carvedBase(eightAt8(), 1, size, BEST_FIT), 8);
      CHECKS.due("most room of " + size, carvedBase(eightAt8(), 1, size, MOST_ROOM), 8);
      CHECKS.due("apart of " + size, carvedBase(eightAt8(), 1, size, APART), 12);
    }
    for (int size = 1; size <= 2048; size *= 2) {
      CHECKS.due("best fit of " + size + " in the whole", carvedBase(new PrefixYard(), 0, size, BEST_FIT), 0);
      CHECKS.due("most room of " + size + " in the whole", carvedBase(new PrefixYard(), 0, size, MOST_ROOM), 0);
      CHECKS.due("apart of " + size + " in the whole", carvedBase(new PrefixYard(), 0, size, APART), 2048);
    }
    PrefixYard x = eightAt8();
    CHECKS.due("greatestFree", x.greatestFree(1), 4);
    CHECKS.due("free", x.free(1), 8);
    CHECKS.due("in the way", x.inTheWay(1, 4), 0);
    PrefixYard y = Checks.yard(new int[] {0, 8, 8, 1}, new int[] {1, 8, 4, 1}, new int[] {1, 12, 4, 1});
    y.remove(2);
    y.remove(3);
    CHECKS.due("wholly free again", carvedBase(y, 1, 1, APART), 12);
    CHECKS.due("a span of the size 2", carvedBase(Checks.yard(new int[] {0, 6, 2, 1}), 1, 1, APART), 7);
  }

  // In 1, 8 @ 8, lie spans of 4, 2, 1 and 1: they leave nothing.
  private static PrefixYard full() {
    return Checks.yard(new int[] {0, 8, 8, 1}, new int[] {1, 8, 4, 1}, new int[] {1, 12, 2, 1}, new int[] {1, 14, 1, 1},
        new int[] {1, 15, 1, 1});
  }

  private static void inASpanWithoutAnyFreeBlock() {
    for (int way = BEST_FIT; way <= APART; way++) {
      int by = way;
      CHECKS.refused("1 by " + by, Checks.BAD_STATE, BlocksTest::full, x -> x.carve(1, 1, 0, by));
      CHECKS.refused("4 by " + by, Checks.BAD_STATE, BlocksTest::full, x -> x.carve(1, 4, 0, by));
    }
    for (int base = 8; base < 16; base++) {
      int at = base;
      CHECKS.refused("1 @ " + at, Checks.BAD_STATE, BlocksTest::full, x -> x.carveAt(1, at, 1, 0));
    }
    CHECKS.due("free", full().free(1), 0);
    CHECKS.due("greatestFree", full().greatestFree(1), 0);
    CHECKS.due("in the way of 1", full().inTheWay(1, 1), 1);
    CHECKS.due("in the way of 2", full().inTheWay(1, 2), 1);
    CHECKS.due("in the way of 4", full().inTheWay(1, 4), 1);
  }

  // ---- which block is taken.

  // In 1, 64 @ 64, are free 4 @ 68, 8 @ 80, 16 @ 96 and 1 @ 127.
  private static PrefixYard fourBlocks() {
    return Checks.yard(new int[] {0, 64, 64, 1}, new int[] {1, 64, 4, 1}, new int[] {1, 72, 8, 1},
        new int[] {1, 88, 8, 1}, new int[] {1, 112, 8, 1}, new int[] {1, 120, 4, 1}, new int[] {1, 124, 2, 1},
        new int[] {1, 126, 1, 1});
  }

  private static void aBlockAsGreatAsIsAsked() {
    CHECKS.due("1 by best fit", carvedBase(fourBlocks(), 1, 1, BEST_FIT), 127);
    CHECKS.due("4 by best fit", carvedBase(fourBlocks(), 1, 4, BEST_FIT), 68);
    CHECKS.due("8 by best fit", carvedBase(fourBlocks(), 1, 8, BEST_FIT), 80);
    CHECKS.due("16 by best fit", carvedBase(fourBlocks(), 1, 16, BEST_FIT), 96);
    CHECKS.due("16 by most room", carvedBase(fourBlocks(), 1, 16, MOST_ROOM), 96);
    CHECKS.due("16 apart lies at its beginning", carvedBase(fourBlocks(), 1, 16, APART), 96);
  }

  private static void aBlockThatIsGreater() {
    CHECKS.due("2 by best fit", carvedBase(fourBlocks(), 1, 2, BEST_FIT), 68);
    CHECKS.due("1 by most room", carvedBase(fourBlocks(), 1, 1, MOST_ROOM), 96);
    CHECKS.due("8 by most room", carvedBase(fourBlocks(), 1, 8, MOST_ROOM), 96);
    CHECKS.due("1 apart, in the second half", carvedBase(fourBlocks(), 1, 1, APART), 104);
    CHECKS.due("4 apart, in the second half", carvedBase(fourBlocks(), 1, 4, APART), 104);
    CHECKS.due("8 apart, just the second half", carvedBase(fourBlocks(), 1, 8, APART), 104);
    for (int way = BEST_FIT; way <= APART; way++) {
      int by = way;
      CHECKS.refused("32, greater than all of them, by " + by, Checks.BAD_STATE, BlocksTest::fourBlocks,
          x -> x.carve(1, 32, 0, by));
    }
  }

  // In 1, 64 @ 64, are free 8 @ 72, 8 @ 88 and 8 @ 120, and 2 @ 96.
  private static PrefixYard threeOf8() {
    return Checks.yard(new int[] {0, 64, 64, 1}, new int[] {1, 112, 8, 1}, new int[] {1, 104, 8, 1},
        new int[] {1, 100, 4, 1}, new int[] {1, 98, 2, 1}, new int[] {1, 80, 8, 1}, new int[] {1, 64, 8, 1});
  }

  private static void severalBlocksOfOneSize() {
    int[] lowestFirst = {72, 88, 120};
    for (int way = BEST_FIT; way <= APART; way++) {
      PrefixYard x = threeOf8();
      for (int base : lowestFirst) {
        CHECKS.due("8 by " + way, carvedBase(x, 1, 8, way), base);
      }
    }
    PrefixYard x = threeOf8();
    for (int base : lowestFirst) {
      CHECKS.due("4 apart", carvedBase(x, 1, 4, APART), base + 4);
    }
    CHECKS.due("4 by best fit, lowest of the halves that are left", carvedBase(x, 1, 4, BEST_FIT), 72);
    CHECKS.due("4 by most room, lowest of those", carvedBase(x, 1, 4, MOST_ROOM), 88);
    PrefixYard y = threeOf8();
    CHECKS.due("1 by best fit", carvedBase(y, 1, 1, BEST_FIT), 96);
    CHECKS.due("3 more by best fit", carvedBase(y, 1, 1, BEST_FIT), 97);
    CHECKS.due("then the lowest of 8", carvedBase(y, 1, 1, BEST_FIT), 72);
  }

  // In 1, 16 @ 16, is taken an address alone: whole free blocks of 1, 2, 4 and 8 are left.
  private static PrefixYard takenIn16(int address) {
    return Checks.yard(new int[] {0, 16, 16, 1}, new int[] {1, address, 1, 2});
  }

  private static void bestFitTakesTheLeast() {
    PrefixYard x = takenIn16(16);
    CHECKS.due("the first 1", carvedBase(x, 1, 1, BEST_FIT), 17);
    CHECKS.due("the next 1", carvedBase(x, 1, 1, BEST_FIT), 18);
    CHECKS.due("the next 2", carvedBase(x, 1, 2, BEST_FIT), 20);
    PrefixYard y = takenIn16(31);
    CHECKS.due("the least is the last", carvedBase(y, 1, 1, BEST_FIT), 30);
    CHECKS.due("2 just below it", carvedBase(y, 1, 1, BEST_FIT), 28);
    CHECKS.due("4, as the 2 is too small", carvedBase(y, 1, 4, BEST_FIT), 24);
    CHECKS.due("8, as nothing less is left", carvedBase(y, 1, 4, BEST_FIT), 16);
  }

  private static void mostRoomTakesTheGreatest() {
    CHECKS.due("above", carvedBase(takenIn16(16), 1, 1, MOST_ROOM), 24);
    CHECKS.due("below", carvedBase(takenIn16(31), 1, 1, MOST_ROOM), 16);
    PrefixYard x = takenIn16(16);
    carvedBase(x, 1, 8, MOST_ROOM);
    CHECKS.due("then 4", carvedBase(x, 1, 4, MOST_ROOM), 20);
    CHECKS.due("then 2", carvedBase(x, 1, 2, MOST_ROOM), 18);
    CHECKS.due("then 1", carvedBase(x, 1, 1, MOST_ROOM), 17);
    CHECKS.due("then none", x.free(1), 0);
  }

  private static void apartTakesTheSecondHalf() {
    CHECKS.due("1 of 8", carvedBase(takenIn16(16), 1, 1, APART), 28);
    CHECKS.due("4 of 8", carvedBase(takenIn16(16), 1, 4, APART), 28);
    CHECKS.due("8 of 8", carvedBase(takenIn16(16), 1, 8, APART), 24);
    PrefixYard x = eightAt8();
    int[] bases = {12, 10, 9, 15, 8, 11, 13, 14};
    for (int base : bases) {
      CHECKS.due("each 1 apart", carvedBase(x, 1, 1, APART), base);
    }
  }

  // 2 @ 18 and 4 @ 20 are free beside 16 and 17; 17 alone is whole as long as 16 is taken.
  private static void aWholeBlockIsNoHalfOfAFreeOne() {
    PrefixYard x = takenIn16(16);
    CHECKS.due("1, whole, as 16 is taken", carvedBase(x, 1, 1, BEST_FIT), 17);
    PrefixYard y = takenIn16(16);
    y.carveAt(1, 24, 1, 2);
    y.remove(2);
    CHECKS.due("25, as 17 is a part of 8 then", carvedBase(y, 1, 1, BEST_FIT), 25);
    PrefixYard z = Checks.yard(new int[] {0, 16, 16, 1}, new int[] {1, 20, 4, 2}, new int[] {1, 25, 1, 2},
        new int[] {1, 31, 1, 2});
    CHECKS.due("24 is whole, 16 to 19 are parts of 4", carvedBase(z, 1, 1, BEST_FIT), 24);
    CHECKS.due("30 is whole then", carvedBase(z, 1, 1, BEST_FIT), 30);
    CHECKS.due("2 @ 26, not of 2 @ 16", carvedBase(z, 1, 1, BEST_FIT), 26);
  }

  // 8 @ 8 and 8 @ 0 make a block of twice the size that is wholly free, but lies in no span but the whole.
  private static void aBlockBesideTheSpanDoesNotMatter() {
    PrefixYard x = Checks.yard(new int[] {0, 8, 8, 1}, new int[] {1, 8, 1, 2});
    CHECKS.due("within the span", carvedBase(x, 1, 4, MOST_ROOM), 12);
    CHECKS.due("greatestFree", x.greatestFree(1), 2);
    PrefixYard y = Checks.yard(new int[] {0, 16, 8, 1}, new int[] {0, 24, 8, 1}, new int[] {0, 0, 16, 1});
    CHECKS.due("spans on both sides", carvedBase(y, 1, 4, BEST_FIT), 16);
    CHECKS.due("its other half", carvedBase(y, 1, 4, BEST_FIT), 20);
    PrefixYard z = Checks.yard(new int[] {0, 8, 8, 1});
    z.carve(0, 1, 1, BEST_FIT);
    CHECKS.due("a span is in the way in its parent", z.base(2), 0);
    CHECKS.due("beside it", carvedBase(z, 0, 1, BEST_FIT), 1);
    CHECKS.due("not at all in the span", z.free(1), 8);
  }

  private static void theSizesAskedForAreLookedAt() {
    PrefixYard x = Checks.yard(new int[] {0, 16, 16, 1}, new int[] {1, 18, 2, 2}, new int[] {1, 24, 2, 2});
    CHECKS.due("2 @ 16 is too small for 4", carvedBase(x, 1, 4, BEST_FIT), 20);
    CHECKS.due("and so is 2 @ 26", carvedBase(x, 1, 4, BEST_FIT), 28);
    CHECKS.due("2 lies in it", carvedBase(x, 1, 2, BEST_FIT), 16);
    CHECKS.due("1 apart lies in the second half", carvedBase(x, 1, 1, APART), 27);
  }

  // ---- what is free, and what is in the way.

  private static void greatestFreeIsNotTheSpanItself() {
    for (int size = 1; size <= 2048; size *= 2) {
      PrefixYard x = Checks.yard(new int[] {0, size, size, 1});
      CHECKS.due("of a free span of " + size, x.greatestFree(1), size / 2);
    }
    CHECKS.due("of the whole", new PrefixYard().greatestFree(0), 2048);
    PrefixYard x = Checks.yard(new int[] {0, 2, 2, 1}, new int[] {1, 3, 1, 2});
    CHECKS.due("just one address", x.greatestFree(1), 1);
    x.lend(2, 0);
    CHECKS.due("what is lent in a span in it does not matter", x.greatestFree(1), 1);
    PrefixYard y = eightAt8();
    for (int address = 8; address < 16; address++) {
      y.lend(1, 0);
    }
    CHECKS.due("what is lent does not matter, all of it", y.greatestFree(1), 4);
    CHECKS.due("and nothing is in the way", y.inTheWay(1, 4), 0);
    CHECKS.due("but no address is free", y.free(1), 0);
  }

  private static void theLeastNumberInTheWay() {
    PrefixYard x = Checks.yard(new int[] {0, 0, 16, 1}, new int[] {1, 0, 1, 2}, new int[] {1, 2, 1, 2},
        new int[] {1, 4, 4, 2}, new int[] {1, 8, 1, 2}, new int[] {1, 13, 1, 2});
    CHECKS.due("1", x.inTheWay(1, 1), 0);
    CHECKS.due("2, one of eight blocks is free", x.inTheWay(1, 2), 0);
    CHECKS.due("4, one in three blocks of four", x.inTheWay(1, 4), 1);
    CHECKS.due("8, three and two", x.inTheWay(1, 8), 2);
    CHECKS.due("16, as great as the span", x.inTheWay(1, 16), -1);
    CHECKS.due("32, greater", x.inTheWay(1, 32), -1);
    CHECKS.due("of the whole, 2048", x.inTheWay(0, 2048), 0);
    x.remove(6);
    CHECKS.due("8, one is gone", x.inTheWay(1, 8), 1);
    PrefixYard deep = Checks.yard(new int[] {0, 0, 16, 1}, new int[] {1, 0, 4, 2}, new int[] {1, 12, 4, 2},
        new int[] {2, 0, 2, 3}, new int[] {4, 0, 1, 4}, new int[] {3, 12, 1, 3}, new int[] {3, 14, 2, 3});
    CHECKS.due("8, spans in spans do not count", deep.inTheWay(1, 8), 1);
    CHECKS.due("nor do they, of the span itself", deep.inTheWay(0, 2048), 0);
    CHECKS.due("they do where they lie", deep.inTheWay(3, 2), 1);
    PrefixYard y = new PrefixYard();
    for (int number = 1; number < 60; number++) {
      y.carveAt(0, number % 2 * 2048 + 34 * number, 1, 0);
    }
    CHECKS.due("30 in the one half and 29 in the other", y.inTheWay(0, 2048), 29);
  }

  // ---- the definitions, word by word, over all sets of taken addresses in 16 @ 16.

  private static void allSetsOf16Addresses() {
    for (int taken = 0; taken < 1 << 16; taken++) {
      oneSet(taken, 1);
      oneSet(taken, 8);
    }
  }

  // The taken addresses are carved as spans as great as they can be, but not above a greatest size.
  private static void oneSet(int taken, int greatest) {
    PrefixYard x = Checks.yard(new int[] {0, 16, 16, 1});
    int begins = 0;
    int left = taken;
    for (int size = greatest; size >= 1; size /= 2) {
      for (int at = 0; at < 16; at += size) {
        if (isFree(~left, at, size)) {
          x.carveAt(1, 16 + at, size, 2);
          begins |= 1 << at;
          left &= ~((1 << size) - 1 << at);
        }
      }
    }
    asked(x, taken, begins);
  }

  private static void asked(PrefixYard x, int taken, int begins) {
    StringBuilder got = new StringBuilder();
    StringBuilder want = new StringBuilder();
    for (int size = 1; size <= 8; size *= 2) {
      got.append(" way ").append(x.inTheWay(1, size));
      want.append(" way ").append(fewest(taken, begins, size));
      for (int way = BEST_FIT; way <= APART; way++) {
        got.append(' ').append(tried(x, size, way));
        want.append(' ').append(place(taken, size, way));
      }
    }
    got.append(" free ").append(x.free(1)).append(' ').append(x.greatestFree(1)).append(' ').append(x.blocks(2));
    want.append(" free ").append(16 - Integer.bitCount(taken)).append(' ').append(greatestFree(taken));
    want.append(' ').append(told(taken, 0, 16));
    CHECKS.due("taken " + Integer.toBinaryString(taken), got.toString(), want.toString());
  }

  private static int tried(PrefixYard x, int size, int way) {
    try {
      int span = x.carve(1, size, 0, way);
      int base = x.base(span);
      x.remove(span);
      return base;
    } catch (IllegalStateException e) {
      return -1;
    }
  }

  private static boolean isFree(int taken, int at, int size) {
    return (taken >> at & (1 << size) - 1) == 0;
  }

  private static boolean isWhole(int taken, int at, int size) {
    int twice = 2 * size;
    return isFree(taken, at, size) && (twice > 16 || !isFree(taken, at / twice * twice, twice));
  }

  private static int place(int taken, int size, int way) {
    int found = -1;
    int foundSize = 0;
    for (int s = size; s <= 16; s *= 2) {
      for (int at = 0; at < 16; at += s) {
        boolean better = found < 0 || way != BEST_FIT && s > foundSize;
        if (isWhole(taken, at, s) && better) {
          found = at;
          foundSize = s;
        }
      }
    }
    if (found < 0) {
      return -1;
    }
    return 16 + found + (way == APART && foundSize > size ? foundSize / 2 : 0);
  }

  // Spans that begin in the block, and one that begins below it if its first address is taken without a beginning.
  private static int fewest(int taken, int begins, int size) {
    int least = 16;
    for (int at = 0; at < 16; at += size) {
      int from = (taken >> at & 1) == 1 && (begins >> at & 1) == 0 ? 1 : 0;
      least = Math.min(least, from + Integer.bitCount(begins >> at & (1 << size) - 1));
    }
    return least;
  }

  private static int greatestFree(int taken) {
    for (int size = 8; size >= 1; size /= 2) {
      for (int at = 0; at < 16; at += size) {
        if (isFree(taken, at, size)) {
          return size;
        }
      }
    }
    return 0;
  }

  private static int told(int taken, int at, int size) {
    int inIt = Integer.bitCount(taken >> at & (1 << size) - 1);
    if (inIt == 0 || inIt == size) {
      return inIt == 0 ? 0 : 1;
    }
    return told(taken, at, size / 2) + told(taken, at + size / 2, size / 2);
  }
}
