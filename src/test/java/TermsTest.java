/** The sentences of "Terms" on spans, one by one and in their order, at their edges. */
public final class TermsTest {
  private static final Checks CHECKS = new Checks("TermsTest");
  private static final int[] NO_ADDRESSES = {-1, 4096, Integer.MIN_VALUE, Integer.MAX_VALUE};

  public static void main(String[] args) {
    addressesAre0To4095();
    aSpanHasTheAddressesFromItsBaseOn();
    spansAreNumberedInOrder();
    atMost60AreMade();
    span0IsTheWhole();
    aSpanHasLessThanItsParentAsItIsMade();
    aSpanHasLessThanItsParentAsItGrows();
    anOwnerIs0To7();
    spansOfOneParentHaveNoAddressInCommon();
    growingAsksForABlockBelowTheParents();
    growingAsksForNoOtherSpanInTheBlock();
    growingGivesTheAddressesOfTheBlock();
    halvingAsksForASizeOf2();
    halvingAsksForNoSpanInTheSecondHalf();
    halvingAsksForNothingLentInTheSecondHalf();
    halvingLeavesTheFirstHalf();
    halvingToASpanInIt();
    theNearestIsTheSmallest();
    ofAlikeOnesTheInnermost();
    theOwnerOfTheNearestHasTheAddress();
    toldOutsideByTheLeastNumber();
    questionsChangeNothing();
    objectsAreApart();
    CHECKS.finish();
  }

  // ---- what a span is.

  private static PrefixYard firstAndLastLent() {
    PrefixYard x = Checks.yard(new int[] {0, 4095, 1, 1}, new int[] {0, 0, 1, 2});
    x.lend(1, 3);
    x.lend(2, 4);
    return x;
  }

  private static void addressesAre0To4095() {
    PrefixYard x = firstAndLastLent();
    CHECKS.due("isLent(0)", x.isLent(0), true);
    CHECKS.due("isLent(4095)", x.isLent(4095), true);
    CHECKS.nearestDue("the first", x, 0, 2);
    CHECKS.nearestDue("the last", x, 4095, 1);
    CHECKS.due("takeBack(0)", x.takeBack(0), 4);
    CHECKS.due("takeBack(4095)", x.takeBack(4095), 3);
    for (int address : NO_ADDRESSES) {
      CHECKS.refused("takeBack(" + address + ")", Checks.NO_SUCH, TermsTest::firstAndLastLent, y -> y.takeBack(address));
      CHECKS.refused("isLent(" + address + ")", Checks.NO_SUCH, TermsTest::firstAndLastLent, y -> y.isLent(address));
      CHECKS.refused("nearest(" + address + ")", Checks.NO_SUCH, TermsTest::firstAndLastLent, y -> y.nearest(address));
      CHECKS.refused("nearestByRow(" + address + ")", Checks.NO_SUCH, TermsTest::firstAndLastLent,
          y -> y.nearestByRow(address));
    }
  }

  private static void aSpanHasTheAddressesFromItsBaseOn() {
    for (int size = 1; size <= 2048; size *= 2) {
      for (int base = 0; base < 4096; base += base + size) {
        PrefixYard x = Checks.yard(new int[] {0, base, size, 1});
        String what = size + " @ " + base;
        CHECKS.due("base of " + what, x.base(1), base);
        CHECKS.due("size of " + what, x.size(1), size);
        CHECKS.nearestDue(what, x, base, 1);
        CHECKS.nearestDue(what, x, base + size - 1, 1);
        if (base > 0) {
          CHECKS.nearestDue(what, x, base - 1, 0);
        }
        if (base + size < 4096) {
          CHECKS.nearestDue(what, x, base + size, 0);
        }
        CHECKS.due("owned of " + what, x.owned(1), size);
      }
    }
  }

  private static void spansAreNumberedInOrder() {
    PrefixYard x = new PrefixYard();
    CHECKS.due("the whole is 0", x.isThere(0), true);
    CHECKS.due("1 is not made yet", x.isThere(1), false);
    CHECKS.due("the first by carve", x.carve(0, 64, 0, 0), 1);
    CHECKS.due("the second by carveAt", x.carveAt(0, 4032, 64, 0), 2);
    CHECKS.due("the third by carve, in another span", x.carve(2, 8, 0, 2), 3);
    CHECKS.due("one refused", Checks.thrownBy(() -> x.carve(2, 64, 0, 0)), Checks.BAD_STATE.getName());
    CHECKS.due("one refused at a place", Checks.thrownBy(() -> x.carveAt(0, 0, 64, 0)), Checks.BAD_STATE.getName());
    CHECKS.due("those take no number", x.carveAt(1, 0, 1, 0), 4);
    x.remove(4);
    CHECKS.due("the number of one that is gone does not come again", x.carve(1, 1, 0, 0), 5);
    CHECKS.due("4 is gone", x.isThere(4), false);
    x.remove(5);
    x.remove(1);
    CHECKS.due("nor the numbers of two", x.carveAt(2, 4032, 1, 0), 6);
    CHECKS.due("spans", x.spans(), 4);
  }

  // As many as were made, the whole included: the ones carved are of the size 1, from the base 0 on.
  static PrefixYard made(int count) {
    PrefixYard x = new PrefixYard();
    for (int number = 1; number < count; number++) {
      x.carve(0, 1, number % 8, 0);
    }
    return x;
  }

  // Of 60 made all but the whole and the last one are gone.
  private static PrefixYard mostRemoved() {
    PrefixYard x = made(60);
    for (int number = 1; number < 59; number++) {
      x.remove(number);
    }
    return x;
  }

  private static void atMost60AreMade() {
    CHECKS.due("the 60th by carve", made(59).carve(0, 1, 0, 0), 59);
    CHECKS.due("the 60th by carveAt", made(59).carveAt(0, 4095, 1, 0), 59);
    PrefixYard x = made(60);
    CHECKS.due("spans", x.spans(), 60);
    CHECKS.due("isThere(59)", x.isThere(59), true);
    CHECKS.due("isThere(60)", x.isThere(60), false);
    CHECKS.due("base(59)", x.base(59), 58);
    CHECKS.due("parent(59)", x.parent(59), 0);
    CHECKS.nearestDue("the last one made", x, 58, 59);
    CHECKS.due("it grows", x.grow(59), 58);
    CHECKS.due("it is halved", x.halve(59), 1);
    CHECKS.due("it lends", x.lend(59, 0), 58);
    CHECKS.due("it gets an owner", x.setOwner(59, 7), 59 % 8);
    CHECKS.refused("a 61st by carve", Checks.BAD_STATE, () -> made(60), y -> y.carve(0, 1, 0, 0));
    CHECKS.refused("a 61st by carveAt", Checks.BAD_STATE, () -> made(60), y -> y.carveAt(0, 4095, 1, 0));
    CHECKS.due("spans, most of them gone", mostRemoved().spans(), 2);
    CHECKS.refused("a 61st, most of them gone", Checks.BAD_STATE, TermsTest::mostRemoved, y -> y.carve(0, 1, 0, 0));
    CHECKS.refused("at a place, most of them gone", Checks.BAD_STATE, TermsTest::mostRemoved,
        y -> y.carveAt(0, 0, 2048, 0));
  }

  private static void span0IsTheWhole() {
    PrefixYard x = new PrefixYard();
    CHECKS.due("base(0)", x.base(0), 0);
    CHECKS.due("size(0)", x.size(0), 4096);
    CHECKS.due("parent(0)", x.parent(0), -1);
    CHECKS.due("owned(0)", x.owned(0), 4096);
    CHECKS.due("its owner", x.setOwner(0, 0), 0);
    CHECKS.refused("it does not go", Checks.BAD_STATE, PrefixYard::new, y -> y.remove(0));
    CHECKS.refused("it does not grow", Checks.BAD_STATE, PrefixYard::new, y -> y.grow(0));
    CHECKS.refused("it is not halved", Checks.BAD_STATE, PrefixYard::new, y -> y.halve(0));
    CHECKS.refused("nor with a span in its first half", Checks.BAD_STATE,
        () -> Checks.yard(new int[] {0, 0, 2048, 1}), y -> y.halve(0));
  }

  private static void aSpanHasLessThanItsParentAsItIsMade() {
    for (int size = 2; size <= 2048; size *= 2) {
      int in = size;
      for (int way = 0; way <= 2; way++) {
        int by = way;
        PrefixYard x = Checks.yard(new int[] {0, 0, size, 1});
        CHECKS.due("half of " + size, x.size(x.carve(1, size / 2, 2, way)), size / 2);
        CHECKS.refused(size + " in " + size, Checks.BAD_STATE, () -> Checks.yard(new int[] {0, 0, in, 1}),
            y -> y.carve(1, in, 2, by));
      }
      PrefixYard x = Checks.yard(new int[] {0, size, size, 1});
      CHECKS.due("the second half of " + size, x.carveAt(1, size + size / 2, size / 2, 2), 2);
      CHECKS.refused(size + " at a place in " + size, Checks.BAD_STATE, () -> Checks.yard(new int[] {0, 0, in, 1}),
          y -> y.carveAt(1, 0, in, 2));
    }
    CHECKS.refused("1 in 1", Checks.BAD_STATE, () -> Checks.yard(new int[] {0, 5, 1, 1}), y -> y.carve(1, 1, 2, 0));
    CHECKS.refused("1 at a place in 1", Checks.BAD_STATE, () -> Checks.yard(new int[] {0, 5, 1, 1}),
        y -> y.carveAt(1, 5, 1, 2));
    CHECKS.due("2048 in the whole", new PrefixYard().carve(0, 2048, 0, 0), 1);
    PrefixYard grown = Checks.yard(new int[] {0, 0, 8, 1});
    grown.grow(1);
    CHECKS.due("8 in one that grew to 16", grown.carve(1, 8, 2, 0), 2);
    CHECKS.refused("8 in one that was halved to 8", Checks.BAD_STATE, TermsTest::halvedTo8, y -> y.carve(1, 8, 2, 0));
    CHECKS.due("4 in that one", halvedTo8().carve(1, 4, 2, 0), 2);
  }

  private static PrefixYard halvedTo8() {
    PrefixYard x = Checks.yard(new int[] {0, 0, 16, 1});
    x.halve(1);
    return x;
  }

  // 1, as great as is asked, and in it 2, the single address at its end, doubled as often as it can be.
  private static PrefixYard grownIn(int size) {
    PrefixYard x = Checks.yard(new int[] {0, size, size, 1}, new int[] {1, 2 * size - 1, 1, 2});
    for (int half = 2; half <= size / 2; half *= 2) {
      x.grow(2);
    }
    return x;
  }

  private static void aSpanHasLessThanItsParentAsItGrows() {
    for (int size = 2; size <= 2048; size *= 2) {
      int in = size;
      CHECKS.due("up to half of " + size, grownIn(size).size(2), size / 2);
      CHECKS.due("its base", grownIn(size).base(2), size + size / 2);
      CHECKS.refused("up to " + size + " of " + size, Checks.BAD_STATE, () -> grownIn(in), x -> x.grow(2));
    }
    PrefixYard x = grownIn(8);
    x.grow(1);
    CHECKS.due("more in a parent that grew", x.grow(2), 8);
    CHECKS.due("its size", x.size(2), 8);
    CHECKS.refused("less in a parent that was halved", Checks.BAD_STATE, TermsTest::quarterOfHalved, y -> y.grow(2));
    PrefixYard z = Checks.yard(new int[] {0, 1024, 1024, 1});
    CHECKS.due("up to half of the whole", z.grow(1), 0);
    CHECKS.due("its size then", z.size(1), 2048);
    CHECKS.refused("up to the whole", Checks.BAD_STATE, () -> Checks.yard(new int[] {0, 2048, 2048, 1}), y -> y.grow(1));
  }

  // 2 has a quarter of 1 as it is made, and half of it after 1 was halved.
  private static PrefixYard quarterOfHalved() {
    PrefixYard x = Checks.yard(new int[] {0, 0, 16, 1}, new int[] {1, 0, 4, 2});
    x.halve(1);
    return x;
  }

  private static void anOwnerIs0To7() {
    for (int owner = 0; owner <= 7; owner++) {
      PrefixYard x = new PrefixYard();
      x.setOwner(0, owner == 0 ? 1 : 0);
      x.carve(0, 16, owner, 0);
      CHECKS.due("owned by " + owner, x.owned(owner), 16);
      x.carveAt(0, 64, 32, owner);
      CHECKS.due("owned by " + owner + " then", x.owned(owner), 48);
      CHECKS.due("told outside of " + owner, x.blocks(owner), 2);
      CHECKS.due("setOwner(0, " + owner + ")", x.setOwner(0, owner), owner == 0 ? 1 : 0);
      CHECKS.due("all owned by " + owner, x.owned(owner), 4096);
    }
    for (int owner : new int[] {-1, 8}) {
      CHECKS.refused("carve of " + owner, Checks.BAD_ARGUMENT, PrefixYard::new, x -> x.carve(0, 1, owner, 0));
      CHECKS.refused("carveAt of " + owner, Checks.BAD_ARGUMENT, PrefixYard::new, x -> x.carveAt(0, 0, 1, owner));
      CHECKS.refused("setOwner of " + owner, Checks.BAD_ARGUMENT, PrefixYard::new, x -> x.setOwner(0, owner));
      CHECKS.refused("owned of " + owner, Checks.BAD_ARGUMENT, PrefixYard::new, x -> x.owned(owner));
      CHECKS.refused("blocks of " + owner, Checks.BAD_ARGUMENT, PrefixYard::new, x -> x.blocks(owner));
    }
  }

  private static PrefixYard eightAt8() {
    return Checks.yard(new int[] {0, 8, 8, 1});
  }

  private static void spansOfOneParentHaveNoAddressInCommon() {
    CHECKS.refused("just that block", Checks.BAD_STATE, TermsTest::eightAt8, x -> x.carveAt(0, 8, 8, 2));
    CHECKS.refused("its first half", Checks.BAD_STATE, TermsTest::eightAt8, x -> x.carveAt(0, 8, 4, 2));
    CHECKS.refused("its second half", Checks.BAD_STATE, TermsTest::eightAt8, x -> x.carveAt(0, 12, 4, 2));
    CHECKS.refused("its first address", Checks.BAD_STATE, TermsTest::eightAt8, x -> x.carveAt(0, 8, 1, 2));
    CHECKS.refused("its last address", Checks.BAD_STATE, TermsTest::eightAt8, x -> x.carveAt(0, 15, 1, 2));
    CHECKS.refused("twice that block", Checks.BAD_STATE, TermsTest::eightAt8, x -> x.carveAt(0, 0, 16, 2));
    CHECKS.refused("a far greater one", Checks.BAD_STATE, TermsTest::eightAt8, x -> x.carveAt(0, 0, 2048, 2));
    PrefixYard x = eightAt8();
    CHECKS.due("the address below it", x.carveAt(0, 7, 1, 2), 2);
    CHECKS.due("the address above it", x.carveAt(0, 16, 1, 2), 3);
    CHECKS.due("the same in the span itself", x.carveAt(1, 8, 4, 2), 4);
  }

  // ---- growing.

  private static void growingAsksForABlockBelowTheParents() {
    CHECKS.refused("just as great as the parent", Checks.BAD_STATE,
        () -> Checks.yard(new int[] {0, 16, 16, 1}, new int[] {1, 16, 8, 2}), x -> x.grow(2));
    CHECKS.refused("as great as the parent, downwards", Checks.BAD_STATE,
        () -> Checks.yard(new int[] {0, 16, 16, 1}, new int[] {1, 24, 8, 2}), x -> x.grow(2));
    PrefixYard x = Checks.yard(new int[] {0, 16, 16, 1}, new int[] {1, 28, 4, 2});
    CHECKS.due("half of the parent", x.grow(2), 24);
    CHECKS.refused("beyond a parent that was halved to just it", Checks.BAD_STATE, TermsTest::justInIt, y -> y.grow(2));
    CHECKS.due("though that parent grows", justInIt().grow(1), 8);
  }

  // 1 was halved to just the half that 2 has.
  private static PrefixYard justInIt() {
    PrefixYard x = Checks.yard(new int[] {0, 8, 8, 1}, new int[] {1, 8, 4, 2});
    x.halve(1);
    x.halve(2);
    x.halve(1);
    return x;
  }

  private static void growingAsksForNoOtherSpanInTheBlock() {
    for (int address = 0; address < 16; address++) {
      int other = address;
      if (address >= 8 && address < 12) {
        continue;
      }
      if (address >= 12) {
        CHECKS.refused("another one at " + address, Checks.BAD_STATE, () -> fourAt8And(other, 1), x -> x.grow(1));
      } else {
        CHECKS.due("another one at " + address, fourAt8And(other, 1).grow(1), 8);
      }
    }
    CHECKS.refused("another one that is as great", Checks.BAD_STATE, () -> fourAt8And(12, 4), x -> x.grow(1));
    CHECKS.refused("the one that grew is below it", Checks.BAD_STATE, () -> fourAt8And(12, 4), x -> x.grow(2));
    CHECKS.due("one just below the block", fourAt8And(4, 4).grow(1), 8);
    CHECKS.due("one just above the block", fourAt8And(16, 4).grow(1), 8);
    PrefixYard x = Checks.yard(new int[] {0, 8, 4, 1}, new int[] {1, 8, 1, 2}, new int[] {1, 10, 2, 3});
    CHECKS.due("spans in the span itself", x.grow(1), 8);
    PrefixYard y = fourAt8And(12, 4);
    y.remove(2);
    CHECKS.due("one that is gone", y.grow(1), 8);
    PrefixYard z = Checks.yard(new int[] {0, 0, 64, 1}, new int[] {1, 8, 4, 2}, new int[] {0, 64, 64, 1},
        new int[] {3, 76, 4, 2});
    CHECKS.due("a span in another parent", z.grow(2), 8);
    CHECKS.due("what is lent in it", lentAllOver().grow(1), 8);
  }

  private static PrefixYard fourAt8And(int base, int size) {
    return Checks.yard(new int[] {0, 8, 4, 1}, new int[] {0, base, size, 2});
  }

  private static PrefixYard lentAllOver() {
    PrefixYard x = Checks.yard(new int[] {0, 8, 4, 1});
    for (int address = 0; address < 4; address++) {
      x.lend(1, 0);
    }
    return x;
  }

  private static void growingGivesTheAddressesOfTheBlock() {
    PrefixYard x = Checks.yard(new int[] {0, 8, 4, 1}, new int[] {0, 20, 4, 2});
    CHECKS.nearestDue("above it before it grows", x, 12, 0);
    CHECKS.nearestDue("below the other before it grows", x, 19, 0);
    CHECKS.due("the first half of the block", x.grow(1), 8);
    CHECKS.due("the second half of the block", x.grow(2), 16);
    CHECKS.due("size of the one", x.size(1), 8);
    CHECKS.due("size of the other", x.size(2), 8);
    CHECKS.due("base of the one", x.base(1), 8);
    CHECKS.due("base of the other", x.base(2), 16);
    int[] addresses = {7, 8, 15, 16, 23, 24};
    int[] spans = {0, 1, 1, 2, 2, 0};
    for (int i = 0; i < addresses.length; i++) {
      CHECKS.nearestDue("both grew", x, addresses[i], spans[i]);
    }
    CHECKS.due("owned by the one's", x.owned(1), 8);
    CHECKS.due("free in the one", x.free(1), 8);
    CHECKS.due("owned by 0", x.owned(0), 4096 - 16);
    PrefixYard lender = lentAllOver();
    lender.grow(1);
    CHECKS.due("what was lent in it is lent", lender.lent(), 4);
    CHECKS.due("the lowest free one is a new one", lender.lend(1, 1), 12);
  }

  // ---- halving.

  private static void halvingAsksForASizeOf2() {
    CHECKS.due("a span of the size 2", Checks.yard(new int[] {0, 2, 2, 1}).halve(1), 1);
    CHECKS.refused("a span of the size 1", Checks.BAD_STATE, () -> Checks.yard(new int[] {0, 2, 1, 1}), x -> x.halve(1));
    CHECKS.refused("one halved to the size 1", Checks.BAD_STATE, TermsTest::halvedTo1, x -> x.halve(1));
    CHECKS.due("the greatest one", Checks.yard(new int[] {0, 2048, 2048, 1}).halve(1), 1024);
  }

  private static PrefixYard halvedTo1() {
    PrefixYard x = Checks.yard(new int[] {0, 2, 2, 1});
    x.halve(1);
    return x;
  }

  // Each block in a span of 8 @ 16.
  private static void halvingAsksForNoSpanInTheSecondHalf() {
    for (int size = 1; size <= 4; size *= 2) {
      for (int base = 16; base < 24; base += size) {
        int at = base;
        int by = size;
        if (base + size <= 20) {
          CHECKS.due(size + " @ " + base, Checks.yard(new int[] {0, 16, 8, 1}, new int[] {1, base, size, 2}).halve(1), 4);
        } else {
          CHECKS.refused(size + " @ " + base, Checks.BAD_STATE,
              () -> Checks.yard(new int[] {0, 16, 8, 1}, new int[] {1, at, by, 2}), x -> x.halve(1));
        }
      }
    }
    CHECKS.refused("one that has all of it", Checks.BAD_STATE, TermsTest::justInIt, x -> x.halve(1));
    CHECKS.due("the one that has it", justInIt().halve(2), 1);
    PrefixYard x = Checks.yard(new int[] {0, 16, 8, 1}, new int[] {0, 24, 8, 2}, new int[] {1, 20, 4, 3});
    x.remove(3);
    CHECKS.due("one that is gone, and one just above", x.halve(1), 4);
  }

  // In 1, 8 @ 16, just one address is lent.
  private static PrefixYard oneLent(int address) {
    PrefixYard x = Checks.yard(new int[] {0, 16, 8, 1});
    for (int lent = 16; lent <= address; lent++) {
      x.lend(1, 0);
    }
    for (int lent = 16; lent < address; lent++) {
      x.takeBack(lent);
    }
    return x;
  }

  private static void halvingAsksForNothingLentInTheSecondHalf() {
    for (int address = 16; address < 24; address++) {
      int lent = address;
      if (address < 20) {
        PrefixYard x = oneLent(address);
        CHECKS.due("lent is " + address, x.halve(1), 4);
        CHECKS.due("it is lent then", x.isLent(address), true);
      } else {
        CHECKS.refused("lent is " + address, Checks.BAD_STATE, () -> oneLent(lent), x -> x.halve(1));
      }
    }
    PrefixYard x = oneLent(23);
    x.takeBack(23);
    CHECKS.due("nothing is lent there any more", x.halve(1), 4);
    PrefixYard y = Checks.yard(new int[] {0, 16, 8, 1}, new int[] {1, 19, 1, 2}, new int[] {0, 24, 1, 1});
    y.lend(2, 0);
    y.lend(3, 0);
    CHECKS.due("lent in a span in the first half, and just above", y.halve(1), 4);
    CHECKS.due("all of that is lent then", y.lent(), 2);
  }

  private static void halvingLeavesTheFirstHalf() {
    PrefixYard x = Checks.yard(new int[] {0, 0, 64, 1}, new int[] {1, 16, 8, 2});
    CHECKS.nearestDue("the second half before it is halved", x, 20, 2);
    CHECKS.due("halve(2)", x.halve(2), 4);
    CHECKS.due("size(2)", x.size(2), 4);
    CHECKS.due("base(2)", x.base(2), 16);
    CHECKS.due("parent(2)", x.parent(2), 1);
    CHECKS.nearestDue("the first half", x, 16, 2);
    CHECKS.nearestDue("the first half", x, 19, 2);
    CHECKS.nearestDue("the second half", x, 20, 1);
    CHECKS.nearestDue("the second half", x, 23, 1);
    CHECKS.due("owned(2)", x.owned(2), 4);
    CHECKS.due("owned(1)", x.owned(1), 60);
    CHECKS.due("free(1)", x.free(1), 60);
    CHECKS.due("the second half can be carved again", x.carveAt(1, 20, 4, 3), 3);
    CHECKS.nearestDue("the new span", x, 20, 3);
    CHECKS.due("and by a way", x.carve(1, 4, 3, 0), 4);
    CHECKS.nearestDue("that one", x, 24, 4);
  }

  private static void halvingToASpanInIt() {
    PrefixYard x = Checks.yard(new int[] {0, 0, 16, 1}, new int[] {1, 0, 8, 2});
    CHECKS.due("halved to it", x.halve(1), 8);
    CHECKS.due("size of the parent", x.size(1), 8);
    CHECKS.due("size of the one in it", x.size(2), 8);
    CHECKS.due("its parent", x.parent(2), 1);
    CHECKS.due("free of the parent", x.free(1), 0);
    CHECKS.due("greatestFree of the parent", x.greatestFree(1), 0);
    CHECKS.due("greatestFree of the one in it", x.greatestFree(2), 4);
    CHECKS.due("in the way in the parent", x.inTheWay(1, 1), 1);
    CHECKS.due("of its own size", x.inTheWay(1, 8), -1);
    CHECKS.due("the one in it lends", x.lend(2, 0), 0);
    for (int way = 0; way <= 2; way++) {
      int by = way;
      CHECKS.refused("carve in the parent", Checks.BAD_STATE, TermsTest::alike, y -> y.carve(1, 1, 0, by));
    }
    CHECKS.refused("carveAt in the parent", Checks.BAD_STATE, TermsTest::alike, y -> y.carveAt(1, 7, 1, 0));
    CHECKS.refused("lend in the parent", Checks.BAD_STATE, TermsTest::alike, y -> y.lend(1, 0));
    CHECKS.refused("remove the parent", Checks.BAD_STATE, TermsTest::alike, y -> y.remove(1));
    CHECKS.refused("grow the one in it", Checks.BAD_STATE, TermsTest::alike, y -> y.grow(2));
    CHECKS.refused("halve the parent", Checks.BAD_STATE, TermsTest::alike, y -> y.halve(1));
    CHECKS.due("remove the one in it", alike().remove(2), 8);
    CHECKS.due("halve the one in it", alike().halve(2), 4);
    PrefixYard y = alike();
    CHECKS.due("carve in the one in it", y.base(y.carve(2, 4, 0, 2)), 4);
  }

  // ---- the nearest span, and telling an owner outside.

  // 1 and 2, in it, have both 8 @ 0.
  private static PrefixYard alike() {
    PrefixYard x = Checks.yard(new int[] {0, 0, 16, 1}, new int[] {1, 0, 8, 2});
    x.halve(1);
    return x;
  }

  // 1, in it 2, and in that 3, have all 8 @ 0; in 3 lies 4, 2 @ 2.
  private static PrefixYard alike3() {
    PrefixYard x = Checks.yard(new int[] {0, 0, 32, 1}, new int[] {1, 0, 16, 2}, new int[] {2, 0, 8, 3},
        new int[] {3, 2, 2, 4});
    x.halve(2);
    x.halve(1);
    x.halve(1);
    return x;
  }

  private static void theNearestIsTheSmallest() {
    PrefixYard x = Checks.yard(new int[] {0, 1024, 1024, 1}, new int[] {1, 1536, 512, 2}, new int[] {2, 2047, 1, 3},
        new int[] {1, 1024, 256, 4}, new int[] {4, 1024, 128, 5});
    int[] addresses = {0, 1023, 1024, 1151, 1152, 1279, 1280, 1535, 1536, 2046, 2047, 2048, 4095};
    int[] spans = {0, 0, 5, 5, 4, 4, 1, 1, 2, 2, 3, 0, 0};
    for (int i = 0; i < addresses.length; i++) {
      CHECKS.nearestDue("spans in spans", x, addresses[i], spans[i]);
    }
    PrefixYard deep = new PrefixYard();
    for (int size = 2048; size >= 1; size /= 2) {
      deep.carve(deep.spans() - 1, size, 1, 0);
    }
    CHECKS.nearestDue("a span of each size in one another", deep, 0, 12);
    for (int size = 1; size <= 2048; size *= 2) {
      CHECKS.nearestDue("the one of twice " + size, deep, size, 11 - Integer.numberOfTrailingZeros(size));
    }
  }

  private static void ofAlikeOnesTheInnermost() {
    PrefixYard x = alike3();
    for (int address = 0; address < 8; address++) {
      CHECKS.nearestDue("three alike ones", x, address, address == 2 || address == 3 ? 4 : 3);
    }
    CHECKS.nearestDue("just above them", x, 8, 0);
    x.remove(4);
    x.remove(3);
    CHECKS.nearestDue("two alike ones", x, 7, 2);
    x.remove(2);
    CHECKS.nearestDue("the outermost one", x, 7, 1);
    PrefixYard most = twelveAlike();
    CHECKS.due("size of the outermost", most.size(1), 1);
    CHECKS.due("size of the innermost", most.size(12), 1);
    CHECKS.nearestDue("twelve alike ones of the size 1", most, 0, 12);
    CHECKS.due("owned by the innermost's", most.owned(4), 1);
    CHECKS.due("owned by the outer ones'", most.owned(1), 0);
  }

  // 1 to 12 in one another, each of them halved to the single address 0.
  private static PrefixYard twelveAlike() {
    PrefixYard x = new PrefixYard();
    for (int number = 1; number <= 12; number++) {
      x.carve(number - 1, 4096 >> number, number % 8, 0);
    }
    for (int number = 11; number >= 1; number--) {
      for (int size = 4096 >> number; size > 1; size /= 2) {
        x.halve(number);
      }
    }
    return x;
  }

  private static void theOwnerOfTheNearestHasTheAddress() {
    PrefixYard x = alike3();
    CHECKS.due("of the outermost", x.owned(1), 0);
    CHECKS.due("of the next", x.owned(2), 0);
    CHECKS.due("of the innermost", x.owned(3), 6);
    CHECKS.due("of the one in that", x.owned(4), 2);
    CHECKS.due("blocks of the outermost's", x.blocks(1), 0);
    CHECKS.due("blocks of the innermost's", x.blocks(3), 2);
    x.setOwner(1, 7);
    CHECKS.due("another owner of the outermost", x.owned(7), 0);
    x.setOwner(3, 7);
    CHECKS.due("another owner of the innermost", x.owned(7), 6);
    CHECKS.due("an owner of no span", x.owned(3), 0);
    x.setOwner(4, 7);
    CHECKS.due("told by one block", x.blocks(7), 1);
  }

  private static void toldOutsideByTheLeastNumber() {
    CHECKS.due("none", new PrefixYard().blocks(7), 0);
    CHECKS.due("all", new PrefixYard().blocks(0), 1);
    CHECKS.due("all but the first", Checks.yard(new int[] {0, 0, 1, 1}).blocks(0), 12);
    CHECKS.due("all but the last", Checks.yard(new int[] {0, 4095, 1, 1}).blocks(0), 12);
    CHECKS.due("just the last", Checks.yard(new int[] {0, 4095, 1, 1}).blocks(1), 1);
    CHECKS.due("half", Checks.yard(new int[] {0, 2048, 2048, 1}).blocks(0), 1);
    CHECKS.due("two spans that make a block", Checks.yard(new int[] {0, 8, 8, 1}, new int[] {0, 0, 8, 1}).blocks(1), 1);
    CHECKS.due("two spans side by side that make none",
        Checks.yard(new int[] {0, 8, 8, 1}, new int[] {0, 16, 8, 1}).blocks(1), 2);
    CHECKS.due("spans of several sizes that make a block",
        Checks.yard(new int[] {0, 16, 8, 1}, new int[] {0, 24, 4, 1}, new int[] {0, 28, 4, 1}).blocks(1), 1);
    CHECKS.due("a span and one beside it in another span",
        Checks.yard(new int[] {0, 0, 8, 1}, new int[] {0, 8, 8, 2}, new int[] {2, 8, 4, 1}, new int[] {2, 12, 4, 1})
            .blocks(1), 1);
    CHECKS.due("a span in one of the same owner",
        Checks.yard(new int[] {0, 8, 8, 1}, new int[] {1, 9, 1, 1}).blocks(1), 1);
    CHECKS.due("a span in one of another owner",
        Checks.yard(new int[] {0, 8, 8, 1}, new int[] {1, 9, 1, 2}).blocks(1), 3);
    CHECKS.due("six from 1 on", Checks.yard(new int[] {0, 0, 8, 1}, new int[] {1, 0, 1, 2}, new int[] {1, 7, 1, 2})
        .blocks(1), 4);
    PrefixYard x = Checks.yard(new int[] {0, 0, 2048, 1}, new int[] {0, 2048, 2048, 1});
    CHECKS.due("all in two spans", x.blocks(1), 1);
    CHECKS.due("the whole's owner then", x.blocks(0), 0);
    CHECKS.due("all are that owner's", x.owned(1), 4096);
    CHECKS.due("none is the whole's owner's", x.owned(0), 0);
  }

  // ---- what is promised of all calls.

  private static PrefixYard some() {
    PrefixYard x = Checks.yard(new int[] {0, 0, 16, 1}, new int[] {1, 0, 8, 2}, new int[] {0, 64, 8, 3},
        new int[] {0, 4095, 1, 4});
    x.pass(3);
    x.halve(1);
    x.lend(3, 2);
    x.lend(3, 0);
    x.remove(4);
    return x;
  }

  private static void questionsChangeNothing() {
    CHECKS.onlyAnswers("day()", TermsTest::some, PrefixYard::day);
    CHECKS.onlyAnswers("spans()", TermsTest::some, PrefixYard::spans);
    CHECKS.onlyAnswers("lent()", TermsTest::some, PrefixYard::lent);
    for (int number : new int[] {-1, 0, 1, 2, 3, 4, 5, 60}) {
      CHECKS.onlyAnswers("isThere(" + number + ")", TermsTest::some, x -> x.isThere(number));
    }
    for (int span = 0; span <= 3; span++) {
      int of = span;
      CHECKS.onlyAnswers("base(" + of + ")", TermsTest::some, x -> x.base(of));
      CHECKS.onlyAnswers("size(" + of + ")", TermsTest::some, x -> x.size(of));
      CHECKS.onlyAnswers("parent(" + of + ")", TermsTest::some, x -> x.parent(of));
      CHECKS.onlyAnswers("free(" + of + ")", TermsTest::some, x -> x.free(of));
      CHECKS.onlyAnswers("greatestFree(" + of + ")", TermsTest::some, x -> x.greatestFree(of));
      CHECKS.onlyAnswers("inTheWay(" + of + ", 4)", TermsTest::some, x -> x.inTheWay(of, 4));
      CHECKS.onlyAnswers("inTheWay(" + of + ", 2048)", TermsTest::some, x -> x.inTheWay(of, 2048));
    }
    for (int address : new int[] {0, 7, 8, 64, 65, 66, 4095}) {
      CHECKS.onlyAnswers("isLent(" + address + ")", TermsTest::some, x -> x.isLent(address));
      CHECKS.onlyAnswers("nearest(" + address + ")", TermsTest::some, x -> x.nearest(address));
      CHECKS.onlyAnswers("nearestByRow(" + address + ")", TermsTest::some, x -> x.nearestByRow(address));
    }
    for (int owner = 0; owner <= 7; owner++) {
      int of = owner;
      CHECKS.onlyAnswers("owned(" + of + ")", TermsTest::some, x -> x.owned(of));
      CHECKS.onlyAnswers("blocks(" + of + ")", TermsTest::some, x -> x.blocks(of));
    }
  }

  private static void objectsAreApart() {
    PrefixYard one = new PrefixYard();
    PrefixYard other = some();
    CHECKS.due("spans of the one", one.spans(), 1);
    CHECKS.due("day of the one", one.day(), 0);
    CHECKS.due("lent of the one", one.lent(), 0);
    CHECKS.due("the other's address", one.isLent(64), false);
    CHECKS.nearestDue("the one", one, 64, 0);
    CHECKS.nearestDue("the other", other, 64, 3);
    CHECKS.due("the one's first number", one.carve(0, 1, 0, 0), 1);
    CHECKS.due("the other's next number", other.carve(0, 1, 0, 0), 5);
  }
}
