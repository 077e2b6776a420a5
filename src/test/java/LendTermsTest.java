/** The sentences of "Terms" on addresses that are lent and on days, one by one and in their order, at their edges. */
public final class LendTermsTest {
  private static final Checks CHECKS = new Checks("LendTermsTest");

  public static void main(String[] args) {
    lentInASpanWithoutSpansInIt();
    theLowestFreeAddress();
    untilTheEndOfADay();
    forGood();
    daysAreNumberedFrom0();
    freeAgainWhenTheDayGoesBy();
    theDay100000();
    atMost200AreLent();
    nothingIsCarvedWhereAddressesAreLent();
    aSpanWithoutAFreeAddress();
    theDaysThatAreLeft();
    CHECKS.finish();
  }

  // 1, 8 @ 8, and in it 2, 4 @ 8; both halves of that are 3 and 4.
  private static PrefixYard nested() {
    return Checks.yard(new int[] {0, 8, 8, 1}, new int[] {1, 8, 4, 2}, new int[] {2, 8, 2, 3}, new int[] {2, 10, 2, 4});
  }

  private static void lentInASpanWithoutSpansInIt() {
    CHECKS.refused("the whole", Checks.BAD_STATE, LendTermsTest::nested, x -> x.lend(0, 1));
    CHECKS.refused("a span with free addresses", Checks.BAD_STATE, LendTermsTest::nested, x -> x.lend(1, 1));
    CHECKS.refused("a span without any", Checks.BAD_STATE, LendTermsTest::nested, x -> x.lend(2, 1));
    PrefixYard x = nested();
    CHECKS.due("a span in spans", x.lend(3, 1), 8);
    CHECKS.due("the one beside it", x.lend(4, 1), 10);
    CHECKS.due("free where it is lent", x.free(3), 1);
    CHECKS.due("free where that one lies", x.free(2), 0);
    CHECKS.due("free where those lie", x.free(1), 4);
    x.pass(1);
    x.remove(4);
    CHECKS.due("one is gone, one is there", Checks.thrownBy(() -> x.lend(2, 1)), Checks.BAD_STATE.getName());
    x.remove(3);
    CHECKS.due("both are gone", x.lend(2, 1), 8);
    CHECKS.due("the whole without spans in it", new PrefixYard().lend(0, 1), 0);
  }

  private static void theLowestFreeAddress() {
    PrefixYard x = nested();
    x.remove(4);
    x.remove(3);
    for (int address = 8; address < 12; address++) {
      CHECKS.due("one by one", x.lend(2, 12 - address), address);
    }
    CHECKS.due("takeBack(10)", x.takeBack(10), 2);
    CHECKS.due("takeBack(9)", x.takeBack(9), 3);
    CHECKS.due("the lower one of two", x.lend(2, 0), 9);
    CHECKS.due("the other one", x.lend(2, 0), 10);
    x.pass(4);
    CHECKS.due("the lower one of those that are free again", x.lend(2, 1), 8);
    CHECKS.due("the other one of those", x.lend(2, 1), 11);
  }

  // ---- until the end of a day, or for good.

  private static PrefixYard lentFor(int days) {
    PrefixYard x = Checks.yard(new int[] {0, 8, 8, 1});
    x.lend(1, days);
    return x;
  }

  private static void untilTheEndOfADay() {
    for (int days = 1; days <= 100; days++) {
      PrefixYard x = lentFor(days);
      for (int gone = 1; gone < days; gone++) {
        CHECKS.due("for " + days + " days, after " + gone, x.pass(1), 0);
      }
      CHECKS.due("lent on the last one of " + days, x.isLent(8), true);
      CHECKS.due("lent() on that", x.lent(), 1);
      CHECKS.due("free on that", x.free(1), 7);
      CHECKS.due("the end of the last one of " + days, x.pass(1), 1);
      CHECKS.due("free on the day behind that", x.isLent(8), false);
      CHECKS.due("lent() then", x.lent(), 0);
      CHECKS.due("free then", x.free(1), 8);
      CHECKS.due("it can be lent again", x.lend(1, 1), 8);
    }
    for (int days = 2; days <= 100; days++) {
      CHECKS.due("a day less than " + days + " at once", lentFor(days).pass(days - 1), 0);
      CHECKS.due("just " + days + " at once", lentFor(days).pass(days), 1);
      CHECKS.due("more than " + days + " at once", lentFor(days).pass(days + 1), 1);
    }
  }

  private static void forGood() {
    PrefixYard x = lentFor(0);
    for (int count = 0; count < 100; count++) {
      CHECKS.due("1000 days", x.pass(1000), 0);
    }
    CHECKS.due("lent on the day 100000", x.isLent(8), true);
    CHECKS.due("lent()", x.lent(), 1);
    CHECKS.due("taken back then", x.takeBack(8), 0);
    CHECKS.due("free then", x.isLent(8), false);
    CHECKS.due("taken back at once", lentFor(0).takeBack(8), 0);
  }

  private static void daysAreNumberedFrom0() {
    PrefixYard x = new PrefixYard();
    CHECKS.due("the first day", x.day(), 0);
    x.pass(1);
    CHECKS.due("the next day", x.day(), 1);
    x.pass(1000);
    CHECKS.due("1000 days later", x.day(), 1001);
    x.pass(999);
    CHECKS.due("999 days later", x.day(), 2000);
    CHECKS.due("refused", Checks.thrownBy(() -> x.pass(0)), Checks.BAD_ARGUMENT.getName());
    CHECKS.due("the same day", x.day(), 2000);
  }

  private static void freeAgainWhenTheDayGoesBy() {
    PrefixYard x = Checks.yard(new int[] {0, 0, 8, 1}, new int[] {0, 8, 8, 2});
    x.lend(1, 1);
    x.lend(1, 2);
    x.lend(1, 3);
    x.lend(1, 0);
    x.lend(2, 3);
    CHECKS.due("the first day's end", x.pass(1), 1);
    x.lend(2, 1);
    CHECKS.due("the second one's, of both spans", x.pass(1), 2);
    CHECKS.due("the third one's, of both spans", x.pass(1), 2);
    CHECKS.due("no more", x.pass(1000), 0);
    CHECKS.due("for good", x.lent(), 1);
    PrefixYard y = lentFor(5);
    y.takeBack(8);
    CHECKS.due("one that was taken back is not free again", y.pass(5), 0);
    PrefixYard z = lentFor(5);
    z.pass(4);
    z.takeBack(8);
    z.lend(1, 2);
    CHECKS.due("lent once more, not the end of the first time", z.pass(1), 0);
    CHECKS.due("but that of the second", z.pass(1), 1);
  }

  // On that day four are lent, for 1, 2 and 100 days and for good.
  static PrefixYard onDay(int day) {
    PrefixYard x = new PrefixYard();
    for (int count = 0; count < day / 1000; count++) {
      x.pass(1000);
    }
    if (day % 1000 > 0) {
      x.pass(day % 1000);
    }
    x.carve(0, 8, 1, 0);
    x.lend(1, 1);
    x.lend(1, 2);
    x.lend(1, 100);
    x.lend(1, 0);
    return x;
  }

  private static void theDay100000() {
    PrefixYard x = onDay(99999);
    CHECKS.due("a day before it", x.day(), 99999);
    CHECKS.due("to it", x.pass(1), 1);
    CHECKS.due("it", x.day(), 100000);
    CHECKS.due("lent until its end", x.takeBack(1), 1);
    CHECKS.due("lent far beyond it", x.takeBack(2), 99);
    CHECKS.due("lent for good", x.takeBack(3), 0);
    CHECKS.due("lend on it", x.lend(1, 100), 0);
    CHECKS.due("all 100 days", x.takeBack(0), 100);
    CHECKS.due("1000 to it", onDay(99000).pass(1000), 3);
    CHECKS.due("999 to a day before it", onDay(99000).pass(999), 3);
    CHECKS.refused("1 beyond it", Checks.BAD_STATE, () -> onDay(100000), y -> y.pass(1));
    CHECKS.refused("2, the second beyond it", Checks.BAD_STATE, () -> onDay(99999), y -> y.pass(2));
    CHECKS.refused("1000, the last one beyond it", Checks.BAD_STATE, () -> onDay(99001), y -> y.pass(1000));
    CHECKS.refused("1000 beyond it", Checks.BAD_STATE, () -> onDay(100000), y -> y.pass(1000));
    for (int days : new int[] {0, -1, 1001, Integer.MIN_VALUE, Integer.MAX_VALUE}) {
      CHECKS.refused(days + " on it", Checks.BAD_ARGUMENT, () -> onDay(100000), y -> y.pass(days));
    }
  }

  // ---- how many, and where.

  // 1, 128 @ 128, and 2, 128 @ 256, in which so many are lent: each third one for a day, the others for good.
  static PrefixYard lentInTwo(int count) {
    PrefixYard x = Checks.yard(new int[] {0, 128, 128, 1}, new int[] {0, 256, 128, 2});
    for (int number = 0; number < count; number++) {
      x.lend(1 + number % 2, number % 3 == 0 ? 1 : 0);
    }
    return x;
  }

  private static void atMost200AreLent() {
    CHECKS.due("the 200th", lentInTwo(199).lend(2, 0), 256 + 99);
    CHECKS.due("200", lentInTwo(200).lent(), 200);
    CHECKS.refused("a 201st", Checks.BAD_STATE, () -> lentInTwo(200), x -> x.lend(1, 0));
    CHECKS.refused("a 201st in the other span", Checks.BAD_STATE, () -> lentInTwo(200), x -> x.lend(2, 1));
    CHECKS.refused("a 201st in a span of its own", Checks.BAD_STATE, LendTermsTest::withThird, x -> x.lend(3, 100));
    CHECKS.refused("a 201st in the whole", Checks.BAD_STATE, LendTermsTest::lentInTheWhole, x -> x.lend(0, 1));
    PrefixYard x = lentInTwo(200);
    x.takeBack(130);
    CHECKS.due("one was taken back", x.lend(2, 0), 256 + 100);
    CHECKS.due("that was all", Checks.thrownBy(() -> x.lend(2, 0)), Checks.BAD_STATE.getName());
    CHECKS.due("some are free again", lentInTwo(200).pass(1), 67);
    PrefixYard y = lentInTwo(200);
    y.pass(1);
    for (int number = 0; number < 67; number++) {
      y.lend(1 + number % 2, 0);
    }
    CHECKS.due("200 once more", y.lent(), 200);
    CHECKS.due("and no more", Checks.thrownBy(() -> y.lend(1, 0)), Checks.BAD_STATE.getName());
  }

  private static PrefixYard withThird() {
    PrefixYard x = lentInTwo(200);
    x.carveAt(0, 0, 1, 3);
    return x;
  }

  private static PrefixYard lentInTheWhole() {
    PrefixYard x = new PrefixYard();
    for (int address = 0; address < 200; address++) {
      x.lend(0, 0);
    }
    return x;
  }

  // In 1, 8 @ 8, one address is lent, from the first one on to the last one.
  private static PrefixYard lentAt(int address, int days) {
    PrefixYard x = Checks.yard(new int[] {0, 8, 8, 1});
    for (int lent = 8; lent <= address; lent++) {
      x.lend(1, days);
    }
    for (int lent = 8; lent < address; lent++) {
      x.takeBack(lent);
    }
    return x;
  }

  private static void nothingIsCarvedWhereAddressesAreLent() {
    for (int way = 0; way <= 2; way++) {
      int by = way;
      CHECKS.refused("the first is lent", Checks.BAD_STATE, () -> lentAt(8, 1), x -> x.carve(1, 4, 2, by));
      CHECKS.refused("the last is lent", Checks.BAD_STATE, () -> lentAt(15, 0), x -> x.carve(1, 1, 2, by));
    }
    CHECKS.refused("at a place, the first is lent", Checks.BAD_STATE, () -> lentAt(8, 0), x -> x.carveAt(1, 12, 4, 2));
    CHECKS.refused("at a place, the last is lent", Checks.BAD_STATE, () -> lentAt(15, 1), x -> x.carveAt(1, 8, 1, 2));
    PrefixYard x = lentAt(15, 1);
    CHECKS.due("beside it", x.carveAt(0, 16, 8, 2), 2);
    CHECKS.due("in that one", x.carve(2, 4, 2, 0), 3);
    x.takeBack(15);
    CHECKS.due("it was taken back", x.carve(1, 4, 2, 0), 4);
    PrefixYard y = lentAt(15, 1);
    y.pass(1);
    CHECKS.due("it is free again", y.carveAt(1, 8, 4, 2), 2);
    PrefixYard z = nested();
    z.lend(3, 0);
    CHECKS.due("lent in a span in it", z.carve(1, 4, 2, 0), 5);
    CHECKS.due("lent in a span in one in it", z.carveAt(0, 0, 8, 2), 6);
    PrefixYard w = new PrefixYard();
    w.lend(0, 0);
    CHECKS.due("lent in the whole", Checks.thrownBy(() -> w.carve(0, 1, 0, 2)), Checks.BAD_STATE.getName());
    w.takeBack(0);
    CHECKS.due("no more lent in the whole", w.carve(0, 1, 0, 2), 1);
  }

  private static PrefixYard allLent(int base, int size) {
    PrefixYard x = Checks.yard(new int[] {0, base, size, 1});
    for (int address = 0; address < size; address++) {
      x.lend(1, 1 + address % 100);
    }
    return x;
  }

  private static void aSpanWithoutAFreeAddress() {
    for (int size = 1; size <= 128; size *= 2) {
      int of = size;
      CHECKS.due("free of " + size, allLent(size, size).free(1), 0);
      CHECKS.refused("none of " + size, Checks.BAD_STATE, () -> allLent(of, of), x -> x.lend(1, 0));
      PrefixYard x = allLent(size, size);
      x.takeBack(2 * size - 1);
      CHECKS.due("just the last one of " + size, x.lend(1, 0), 2 * size - 1);
    }
    PrefixYard x = allLent(8, 8);
    x.grow(1);
    CHECKS.due("it grew", x.lend(1, 0), 0);
    PrefixYard y = allLent(8, 8);
    CHECKS.due("the first one is free again", y.pass(1), 1);
    CHECKS.due("and is lent", y.lend(1, 0), 8);
    PrefixYard z = Checks.yard(new int[] {0, 4095, 1, 1});
    CHECKS.due("the last address of all", z.lend(1, 0), 4095);
    CHECKS.due("and none behind it", Checks.thrownBy(() -> z.lend(1, 0)), Checks.BAD_STATE.getName());
  }

  private static void theDaysThatAreLeft() {
    for (int days = 1; days <= 100; days++) {
      CHECKS.due("all of " + days, lentFor(days).takeBack(8), days);
      PrefixYard x = lentFor(days);
      if (days > 1) {
        x.pass(days - 1);
      }
      CHECKS.due("the last one of " + days, x.takeBack(8), 1);
      CHECKS.due("lent() then", x.lent(), 0);
      PrefixYard y = lentFor(days);
      y.pass(days);
      CHECKS.due("behind the last one of " + days, Checks.thrownBy(() -> y.takeBack(8)), Checks.BAD_STATE.getName());
    }
    PrefixYard x = lentFor(0);
    x.pass(1000);
    CHECKS.due("for good, later", x.takeBack(8), 0);
  }
}
