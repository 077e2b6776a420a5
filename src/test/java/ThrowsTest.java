import java.util.function.Consumer;
import java.util.function.Supplier;

/**
 * Each "Throws .. if ..", every case of it by itself: with the case the call throws and leaves all as it
 * was, and with just that case mended the same call throws nothing. Then which exception goes first.
 */
public final class ThrowsTest {
  private static final Checks CHECKS = new Checks("ThrowsTest");

  public static void main(String[] args) {
    carve();
    carveAt();
    remove();
    grow();
    halve();
    setOwner();
    lend();
    takeBack();
    pass();
    questions();
    firstOfCarve();
    firstOfCarveAt();
    firstOfTheOthers();
    refusedManyTimes();
    CHECKS.finish();
  }

  private static void only(String what, Class<?> want, Supplier<PrefixYard> wrong, Supplier<PrefixYard> mended,
      Consumer<PrefixYard> call) {
    CHECKS.refused(what, want, wrong, call);
    allowed(what + ", mended", mended, call);
  }

  private static void onlyArgument(String what, Class<?> want, Supplier<PrefixYard> made, Consumer<PrefixYard> call,
      Consumer<PrefixYard> mended) {
    CHECKS.refused(what, want, made, call);
    allowed(what + ", mended", made, mended);
  }

  private static void allowed(String what, Supplier<PrefixYard> made, Consumer<PrefixYard> call) {
    CHECKS.due(what, Checks.thrownBy(() -> call.accept(made.get())), "nothing");
  }

  // ---- states. In the whole 1, 32 @ 32, and in it 2, 8 @ 40; in the whole 3, 16 @ 128.
  private static PrefixYard some() {
    return Checks.yard(new int[] {0, 32, 32, 1}, new int[] {1, 40, 8, 2}, new int[] {0, 128, 16, 3});
  }

  private static PrefixYard someAnd(Consumer<PrefixYard> more) {
    PrefixYard x = some();
    more.accept(x);
    return x;
  }

  private static PrefixYard lentIn3() {
    return someAnd(x -> x.lend(3, 4));
  }

  private static PrefixYard lentBackIn3() {
    return someAnd(x -> {
      x.lend(3, 4);
      x.takeBack(128);
    });
  }

  // Both halves of 3 are carved, as 4 and 5.
  private static PrefixYard full3() {
    return someAnd(x -> {
      x.carve(3, 8, 4, 0);
      x.carve(3, 8, 5, 0);
    });
  }

  private static PrefixYard half3() {
    return someAnd(x -> x.carve(3, 8, 4, 0));
  }

  // ---- spans.

  private static void carve() {
    for (int way = 0; way <= 2; way++) {
      int by = way;
      onlyArgument("carve, no such span", Checks.NO_SUCH, ThrowsTest::some, x -> x.carve(4, 8, 1, by),
          x -> x.carve(3, 8, 1, by));
      onlyArgument("carve, size below", Checks.BAD_ARGUMENT, ThrowsTest::some, x -> x.carve(0, 0, 1, by),
          x -> x.carve(0, 1, 1, by));
      onlyArgument("carve, size above", Checks.BAD_ARGUMENT, PrefixYard::new, x -> x.carve(0, 4096, 1, by),
          x -> x.carve(0, 2048, 1, by));
      onlyArgument("carve, no power of 2", Checks.BAD_ARGUMENT, ThrowsTest::some, x -> x.carve(0, 6, 1, by),
          x -> x.carve(0, 4, 1, by));
      onlyArgument("carve, owner below", Checks.BAD_ARGUMENT, ThrowsTest::some, x -> x.carve(0, 8, -1, by),
          x -> x.carve(0, 8, 0, by));
      onlyArgument("carve, owner above", Checks.BAD_ARGUMENT, ThrowsTest::some, x -> x.carve(0, 8, 8, by),
          x -> x.carve(0, 8, 7, by));
      only("carve, 60 were made", Checks.BAD_STATE, () -> TermsTest.made(60), () -> TermsTest.made(59),
          x -> x.carve(0, 8, 1, by));
      only("carve, lent in the span", Checks.BAD_STATE, ThrowsTest::lentIn3, ThrowsTest::lentBackIn3,
          x -> x.carve(3, 8, 1, by));
      onlyArgument("carve, just the size of the span", Checks.BAD_STATE, ThrowsTest::some, x -> x.carve(3, 16, 1, by),
          x -> x.carve(3, 8, 1, by));
      onlyArgument("carve, above the size of the span", Checks.BAD_STATE, ThrowsTest::some, x -> x.carve(3, 32, 1, by),
          x -> x.carve(1, 16, 1, by));
      only("carve, no free block at all", Checks.BAD_STATE, ThrowsTest::full3, ThrowsTest::half3,
          x -> x.carve(3, 8, 1, by));
      only("carve, just less ones free", Checks.BAD_STATE, ThrowsTest::quarters, ThrowsTest::half3,
          x -> x.carve(3, 8, 1, by));
    }
    onlyArgument("carve, way below", Checks.BAD_ARGUMENT, ThrowsTest::some, x -> x.carve(0, 8, 1, -1),
        x -> x.carve(0, 8, 1, 0));
    onlyArgument("carve, way above", Checks.BAD_ARGUMENT, ThrowsTest::some, x -> x.carve(0, 8, 1, 3),
        x -> x.carve(0, 8, 1, 2));
  }

  // In 3 half of the addresses are free, but in no block of 8.
  private static PrefixYard quarters() {
    return someAnd(x -> {
      x.carveAt(3, 132, 4, 4);
      x.carveAt(3, 136, 4, 4);
    });
  }

  private static void carveAt() {
    onlyArgument("carveAt, no such span", Checks.NO_SUCH, ThrowsTest::some, x -> x.carveAt(4, 128, 8, 1),
        x -> x.carveAt(3, 128, 8, 1));
    onlyArgument("carveAt, size below", Checks.BAD_ARGUMENT, ThrowsTest::some, x -> x.carveAt(0, 0, 0, 1),
        x -> x.carveAt(0, 0, 1, 1));
    onlyArgument("carveAt, size above", Checks.BAD_ARGUMENT, PrefixYard::new, x -> x.carveAt(0, 0, 4096, 1),
        x -> x.carveAt(0, 0, 2048, 1));
    onlyArgument("carveAt, no power of 2", Checks.BAD_ARGUMENT, ThrowsTest::some, x -> x.carveAt(0, 0, 6, 1),
        x -> x.carveAt(0, 0, 8, 1));
    onlyArgument("carveAt, owner below", Checks.BAD_ARGUMENT, ThrowsTest::some, x -> x.carveAt(0, 0, 8, -1),
        x -> x.carveAt(0, 0, 8, 0));
    onlyArgument("carveAt, owner above", Checks.BAD_ARGUMENT, ThrowsTest::some, x -> x.carveAt(0, 0, 8, 8),
        x -> x.carveAt(0, 0, 8, 7));
    onlyArgument("carveAt, base below 0", Checks.BAD_ARGUMENT, ThrowsTest::some, x -> x.carveAt(0, -8, 8, 1),
        x -> x.carveAt(0, 0, 8, 1));
    onlyArgument("carveAt, no multiple", Checks.BAD_ARGUMENT, ThrowsTest::some, x -> x.carveAt(3, 132, 8, 1),
        x -> x.carveAt(3, 136, 8, 1));
    only("carveAt, 60 were made", Checks.BAD_STATE, () -> TermsTest.made(60), () -> TermsTest.made(59),
        x -> x.carveAt(0, 64, 8, 1));
    only("carveAt, lent in the span", Checks.BAD_STATE, ThrowsTest::lentIn3, ThrowsTest::lentBackIn3,
        x -> x.carveAt(3, 136, 8, 1));
    onlyArgument("carveAt, just the size of the span", Checks.BAD_STATE, ThrowsTest::some,
        x -> x.carveAt(3, 128, 16, 1), x -> x.carveAt(3, 128, 8, 1));
    onlyArgument("carveAt, above the size of the span", Checks.BAD_STATE, ThrowsTest::some,
        x -> x.carveAt(3, 128, 32, 1), x -> x.carveAt(3, 128, 8, 1));
    only("carveAt, the block is taken", Checks.BAD_STATE, ThrowsTest::full3, ThrowsTest::half3,
        x -> x.carveAt(3, 136, 8, 1));
    only("carveAt, a part of the block is taken", Checks.BAD_STATE, ThrowsTest::quarters, ThrowsTest::half3,
        x -> x.carveAt(3, 136, 8, 1));
    onlyArgument("carveAt, the block lies below the span", Checks.BAD_STATE, ThrowsTest::some,
        x -> x.carveAt(3, 120, 8, 1), x -> x.carveAt(3, 128, 8, 1));
    onlyArgument("carveAt, the block lies above the span", Checks.BAD_STATE, ThrowsTest::some,
        x -> x.carveAt(3, 144, 8, 1), x -> x.carveAt(3, 136, 8, 1));
    onlyArgument("carveAt, the block lies above the whole", Checks.BAD_STATE, ThrowsTest::some,
        x -> x.carveAt(0, 4096, 8, 1), x -> x.carveAt(0, 4088, 8, 1));
  }

  private static void remove() {
    onlyArgument("remove, no such span", Checks.NO_SUCH, ThrowsTest::some, x -> x.remove(4), x -> x.remove(3));
    CHECKS.refused("remove, the whole", Checks.BAD_STATE, PrefixYard::new, x -> x.remove(0));
    only("remove, spans in it", Checks.BAD_STATE, ThrowsTest::half3, ThrowsTest::some, x -> x.remove(3));
    only("remove, lent in it", Checks.BAD_STATE, ThrowsTest::lentIn3, ThrowsTest::lentBackIn3, x -> x.remove(3));
    only("remove, lent in it for good, at its end", Checks.BAD_STATE, ThrowsTest::lastLentIn3, ThrowsTest::some,
        x -> x.remove(3));
    allowed("remove, lent beside it", ThrowsTest::lentIn3, x -> x.remove(2));
    allowed("remove, lent just below it", () -> someAnd(x -> x.lend(x.carveAt(0, 127, 1, 0), 0)), x -> x.remove(3));
    allowed("remove, lent just above it", () -> someAnd(x -> x.lend(x.carveAt(0, 144, 1, 0), 0)), x -> x.remove(3));
    CHECKS.due("its size", some().remove(3), 16);
    CHECKS.due("its size as it is then", someAnd(x -> x.grow(3)).remove(3), 32);
  }

  private static PrefixYard lastLentIn3() {
    return someAnd(x -> {
      for (int address = 128; address < 144; address++) {
        x.lend(3, 0);
      }
      for (int address = 128; address < 143; address++) {
        x.takeBack(address);
      }
    });
  }

  private static void grow() {
    onlyArgument("grow, no such span", Checks.NO_SUCH, ThrowsTest::some, x -> x.grow(4), x -> x.grow(3));
    CHECKS.refused("grow, the whole", Checks.BAD_STATE, PrefixYard::new, x -> x.grow(0));
    only("grow, as great as its parent then", Checks.BAD_STATE, () -> someAnd(x -> x.grow(2)), ThrowsTest::some,
        x -> x.grow(2));
    only("grow, a span in the block above it", Checks.BAD_STATE, () -> someAnd(x -> x.carveAt(0, 159, 1, 0)),
        () -> someAnd(x -> x.carveAt(0, 160, 1, 0)), x -> x.grow(3));
    only("grow, a span in the block below it", Checks.BAD_STATE, () -> someAnd(x -> x.carveAt(1, 32, 1, 0)),
        () -> someAnd(x -> x.carveAt(1, 48, 1, 0)), x -> x.grow(2));
    CHECKS.due("its base, upwards", some().grow(3), 128);
    CHECKS.due("its base, downwards", some().grow(2), 32);
  }

  private static void halve() {
    onlyArgument("halve, no such span", Checks.NO_SUCH, ThrowsTest::some, x -> x.halve(4), x -> x.halve(3));
    CHECKS.refused("halve, the whole", Checks.BAD_STATE, PrefixYard::new, x -> x.halve(0));
    only("halve, the size 1", Checks.BAD_STATE, () -> someAnd(x -> x.carve(3, 1, 0, 0)),
        () -> someAnd(x -> x.carve(3, 2, 0, 0)), x -> x.halve(4));
    only("halve, a span in the second half", Checks.BAD_STATE, () -> someAnd(x -> x.carveAt(3, 136, 1, 0)),
        () -> someAnd(x -> x.carveAt(3, 135, 1, 0)), x -> x.halve(3));
    only("halve, just the second half is a span", Checks.BAD_STATE, ThrowsTest::full3, ThrowsTest::half3,
        x -> x.halve(3));
    only("halve, lent in the second half", Checks.BAD_STATE, ThrowsTest::lastLentIn3, ThrowsTest::lentIn3,
        x -> x.halve(3));
    CHECKS.due("its size then", some().halve(3), 8);
  }

  private static void setOwner() {
    onlyArgument("setOwner, no such span", Checks.NO_SUCH, ThrowsTest::some, x -> x.setOwner(4, 1),
        x -> x.setOwner(3, 1));
    onlyArgument("setOwner, owner below", Checks.BAD_ARGUMENT, ThrowsTest::some, x -> x.setOwner(3, -1),
        x -> x.setOwner(3, 0));
    onlyArgument("setOwner, owner above", Checks.BAD_ARGUMENT, ThrowsTest::some, x -> x.setOwner(3, 8),
        x -> x.setOwner(3, 7));
    CHECKS.due("the owner before", some().setOwner(3, 7), 3);
  }

  // ---- addresses that are lent, and days.

  private static void lend() {
    onlyArgument("lend, no such span", Checks.NO_SUCH, ThrowsTest::some, x -> x.lend(4, 1), x -> x.lend(3, 1));
    onlyArgument("lend, days below", Checks.BAD_ARGUMENT, ThrowsTest::some, x -> x.lend(3, -1), x -> x.lend(3, 0));
    onlyArgument("lend, days above", Checks.BAD_ARGUMENT, ThrowsTest::some, x -> x.lend(3, 101), x -> x.lend(3, 100));
    only("lend, spans in it", Checks.BAD_STATE, ThrowsTest::half3, ThrowsTest::some, x -> x.lend(3, 1));
    only("lend, no address of it is free", Checks.BAD_STATE, ThrowsTest::allLentIn3, ThrowsTest::lastLentIn3,
        x -> x.lend(3, 1));
    only("lend, 200 are lent", Checks.BAD_STATE, () -> LendTermsTest.lentInTwo(200),
        () -> LendTermsTest.lentInTwo(199), x -> x.lend(1, 1));
    CHECKS.due("the address", lentIn3().lend(3, 1), 129);
  }

  private static PrefixYard allLentIn3() {
    return someAnd(x -> {
      for (int address = 128; address < 144; address++) {
        x.lend(3, address % 2);
      }
    });
  }

  private static void takeBack() {
    onlyArgument("takeBack, below", Checks.NO_SUCH, ThrowsTest::theFirstLent, x -> x.takeBack(-1), x -> x.takeBack(0));
    onlyArgument("takeBack, above", Checks.NO_SUCH, ThrowsTest::theLastLent, x -> x.takeBack(4096),
        x -> x.takeBack(4095));
    only("takeBack, never lent", Checks.BAD_STATE, ThrowsTest::some, ThrowsTest::lentIn3, x -> x.takeBack(128));
    only("takeBack, taken back", Checks.BAD_STATE, ThrowsTest::lentBackIn3, ThrowsTest::lentIn3,
        x -> x.takeBack(128));
    only("takeBack, free again", Checks.BAD_STATE, () -> lentIn3After(4), () -> lentIn3After(3), x -> x.takeBack(128));
    onlyArgument("takeBack, the one beside is lent", Checks.BAD_STATE, ThrowsTest::lentIn3, x -> x.takeBack(129),
        x -> x.takeBack(128));
    CHECKS.due("the days", lentIn3After(3).takeBack(128), 1);
  }

  private static PrefixYard theFirstLent() {
    PrefixYard x = new PrefixYard();
    x.lend(0, 0);
    return x;
  }

  private static PrefixYard theLastLent() {
    PrefixYard x = Checks.yard(new int[] {0, 4095, 1, 1});
    x.lend(1, 0);
    return x;
  }

  private static PrefixYard lentIn3After(int days) {
    PrefixYard x = lentIn3();
    x.pass(days);
    return x;
  }

  private static void pass() {
    onlyArgument("pass, days below", Checks.BAD_ARGUMENT, ThrowsTest::lentIn3, x -> x.pass(0), x -> x.pass(1));
    onlyArgument("pass, days above", Checks.BAD_ARGUMENT, ThrowsTest::lentIn3, x -> x.pass(1001), x -> x.pass(1000));
    only("pass, a day above 100000", Checks.BAD_STATE, () -> LendTermsTest.onDay(100000),
        () -> LendTermsTest.onDay(99999), x -> x.pass(1));
    onlyArgument("pass, the second day above 100000", Checks.BAD_STATE, () -> LendTermsTest.onDay(99999),
        x -> x.pass(2), x -> x.pass(1));
    onlyArgument("pass, 1000 and a day too many", Checks.BAD_STATE, () -> LendTermsTest.onDay(99001),
        x -> x.pass(1000), x -> x.pass(999));
    CHECKS.due("how many are free again", lentIn3().pass(4), 1);
  }

  // ---- what there is, and whose addresses are.

  private static void questions() {
    onlyArgument("base, no such span", Checks.NO_SUCH, ThrowsTest::some, x -> x.base(4), x -> x.base(3));
    onlyArgument("size, no such span", Checks.NO_SUCH, ThrowsTest::some, x -> x.size(4), x -> x.size(3));
    onlyArgument("parent, no such span", Checks.NO_SUCH, ThrowsTest::some, x -> x.parent(4), x -> x.parent(3));
    onlyArgument("free, no such span", Checks.NO_SUCH, ThrowsTest::some, x -> x.free(4), x -> x.free(3));
    onlyArgument("greatestFree, no such span", Checks.NO_SUCH, ThrowsTest::some, x -> x.greatestFree(4),
        x -> x.greatestFree(3));
    onlyArgument("inTheWay, no such span", Checks.NO_SUCH, ThrowsTest::some, x -> x.inTheWay(4, 1),
        x -> x.inTheWay(3, 1));
    onlyArgument("inTheWay, size below", Checks.BAD_ARGUMENT, ThrowsTest::some, x -> x.inTheWay(3, 0),
        x -> x.inTheWay(3, 1));
    onlyArgument("inTheWay, size above", Checks.BAD_ARGUMENT, ThrowsTest::some, x -> x.inTheWay(3, 4096),
        x -> x.inTheWay(3, 2048));
    onlyArgument("inTheWay, no power of 2", Checks.BAD_ARGUMENT, ThrowsTest::some, x -> x.inTheWay(3, 3),
        x -> x.inTheWay(3, 2));
    onlyArgument("isLent, below", Checks.NO_SUCH, ThrowsTest::some, x -> x.isLent(-1), x -> x.isLent(0));
    onlyArgument("isLent, above", Checks.NO_SUCH, ThrowsTest::some, x -> x.isLent(4096), x -> x.isLent(4095));
    onlyArgument("nearest, below", Checks.NO_SUCH, ThrowsTest::some, x -> x.nearest(-1), x -> x.nearest(0));
    onlyArgument("nearest, above", Checks.NO_SUCH, ThrowsTest::some, x -> x.nearest(4096), x -> x.nearest(4095));
    onlyArgument("nearestByRow, below", Checks.NO_SUCH, ThrowsTest::some, x -> x.nearestByRow(-1),
        x -> x.nearestByRow(0));
    onlyArgument("nearestByRow, above", Checks.NO_SUCH, ThrowsTest::some, x -> x.nearestByRow(4096),
        x -> x.nearestByRow(4095));
    onlyArgument("owned, below", Checks.BAD_ARGUMENT, ThrowsTest::some, x -> x.owned(-1), x -> x.owned(0));
    onlyArgument("owned, above", Checks.BAD_ARGUMENT, ThrowsTest::some, x -> x.owned(8), x -> x.owned(7));
    onlyArgument("blocks, below", Checks.BAD_ARGUMENT, ThrowsTest::some, x -> x.blocks(-1), x -> x.blocks(0));
    onlyArgument("blocks, above", Checks.BAD_ARGUMENT, ThrowsTest::some, x -> x.blocks(8), x -> x.blocks(7));
  }

  // ---- which exception goes first: that which is named first.

  // What is no argument for carve: {size, owner, way}, one of them wrong in each.
  private static final int[][] WRONG = {{0, 1, 0}, {4096, 1, 0}, {3, 1, 0}, {4, -1, 0}, {4, 8, 0}, {4, 1, -1}, {4, 1, 3}};

  private static void firstOfCarve() {
    for (int[] wrong : WRONG) {
      String what = "carve of " + wrong[0] + ", " + wrong[1] + ", " + wrong[2];
      for (int span : new int[] {-1, 4, 60}) {
        CHECKS.refused(what + " in no span", Checks.NO_SUCH, ThrowsTest::some,
            x -> x.carve(span, wrong[0], wrong[1], wrong[2]));
      }
      CHECKS.refused(what + " with 60 made", Checks.BAD_ARGUMENT, () -> TermsTest.made(60),
          x -> x.carve(0, wrong[0], wrong[1], wrong[2]));
      CHECKS.refused(what + " with addresses lent", Checks.BAD_ARGUMENT, ThrowsTest::lentIn3,
          x -> x.carve(3, wrong[0], wrong[1], wrong[2]));
      CHECKS.refused(what + " in a span of 1", Checks.BAD_ARGUMENT, () -> someAnd(x -> x.carve(3, 1, 0, 0)),
          x -> x.carve(4, wrong[0], wrong[1], wrong[2]));
      CHECKS.refused(what + " without a free block", Checks.BAD_ARGUMENT, ThrowsTest::full3,
          x -> x.carve(3, wrong[0], wrong[1], wrong[2]));
    }
    CHECKS.refused("carve in no span with 60 made", Checks.NO_SUCH, () -> TermsTest.made(60), x -> x.carve(60, 1, 0, 0));
    CHECKS.refused("carve, all that can be wrong", Checks.NO_SUCH, () -> TermsTest.made(60), x -> x.carve(-1, 3, 9, 9));
  }

  // For carveAt: {base, size, owner}.
  private static final int[][] WRONG_AT = {{0, 0, 1}, {0, 4096, 1}, {0, 3, 1}, {128, 4, -1}, {128, 4, 8}, {-4, 4, 1},
    {130, 4, 1}};

  private static void firstOfCarveAt() {
    for (int[] wrong : WRONG_AT) {
      String what = "carveAt of " + wrong[0] + ", " + wrong[1] + ", " + wrong[2];
      for (int span : new int[] {-1, 4, 60}) {
        CHECKS.refused(what + " in no span", Checks.NO_SUCH, ThrowsTest::some,
            x -> x.carveAt(span, wrong[0], wrong[1], wrong[2]));
      }
      CHECKS.refused(what + " with 60 made", Checks.BAD_ARGUMENT, () -> TermsTest.made(60),
          x -> x.carveAt(0, wrong[0], wrong[1], wrong[2]));
      CHECKS.refused(what + " with addresses lent", Checks.BAD_ARGUMENT, ThrowsTest::lentIn3,
          x -> x.carveAt(3, wrong[0], wrong[1], wrong[2]));
      CHECKS.refused(what + " in a span of 1", Checks.BAD_ARGUMENT, () -> someAnd(x -> x.carve(3, 1, 0, 0)),
          x -> x.carveAt(4, wrong[0], wrong[1], wrong[2]));
      CHECKS.refused(what + " where nothing is free", Checks.BAD_ARGUMENT, ThrowsTest::full3,
          x -> x.carveAt(3, wrong[0], wrong[1], wrong[2]));
    }
    CHECKS.refused("carveAt in no span with 60 made", Checks.NO_SUCH, () -> TermsTest.made(60),
        x -> x.carveAt(60, 64, 1, 0));
    CHECKS.refused("no multiple, and outside of the whole", Checks.BAD_ARGUMENT, ThrowsTest::some,
        x -> x.carveAt(0, 4097, 2, 0));
  }

  private static void firstOfTheOthers() {
    CHECKS.refused("setOwner, span and owner", Checks.NO_SUCH, ThrowsTest::some, x -> x.setOwner(4, 8));
    CHECKS.refused("lend, span and days", Checks.NO_SUCH, ThrowsTest::some, x -> x.lend(4, 101));
    CHECKS.refused("lend, span and 200 lent", Checks.NO_SUCH, () -> LendTermsTest.lentInTwo(200), x -> x.lend(3, 1));
    for (int days : new int[] {-1, 101}) {
      CHECKS.refused("lend, days and spans in it", Checks.BAD_ARGUMENT, ThrowsTest::half3, x -> x.lend(3, days));
      CHECKS.refused("lend, days and none free", Checks.BAD_ARGUMENT, ThrowsTest::allLentIn3, x -> x.lend(3, days));
      CHECKS.refused("lend, days and 200 lent", Checks.BAD_ARGUMENT, () -> LendTermsTest.lentInTwo(200),
          x -> x.lend(1, days));
    }
    CHECKS.refused("pass, days and the day", Checks.BAD_ARGUMENT, () -> LendTermsTest.onDay(100000), x -> x.pass(1001));
    CHECKS.refused("pass, none and the day", Checks.BAD_ARGUMENT, () -> LendTermsTest.onDay(100000), x -> x.pass(0));
    CHECKS.refused("inTheWay, span and size", Checks.NO_SUCH, ThrowsTest::some, x -> x.inTheWay(4, 3));
    CHECKS.refused("inTheWay, size above that of the span too", Checks.BAD_ARGUMENT, ThrowsTest::some,
        x -> x.inTheWay(3, 33));
  }

  // ---- a call that throws changes nothing, also if it is made again and again.

  private static void refusedManyTimes() {
    CHECKS.refused("each of them often", Checks.BAD_STATE, ThrowsTest::lentIn3, x -> {
      for (int time = 0; time < 12; time++) {
        Checks.thrownBy(() -> x.carve(3, 8, 1, 0));
        Checks.thrownBy(() -> x.carveAt(3, 136, 8, 1));
        Checks.thrownBy(() -> x.remove(1));
        Checks.thrownBy(() -> x.grow(0));
        Checks.thrownBy(() -> x.halve(0));
        Checks.thrownBy(() -> x.setOwner(3, 8));
        Checks.thrownBy(() -> x.lend(1, 1));
        Checks.thrownBy(() -> x.takeBack(129));
        Checks.thrownBy(() -> x.pass(1001));
      }
      x.remove(3);
    });
  }
}
