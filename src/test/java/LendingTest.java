/** Promises 8 to 11, 20 and 21: lend, takeBack, pass, day, lent, isLent. */
public final class LendingTest {
  private static final Checks CHECKS = new Checks("LendingTest");

  public static void main(String[] args) {
    promise8Lend();
    promise8Refused();
    promise8AtMost200();
    promise9TakeBack();
    promise9Refused();
    promise10Pass();
    promise10Refused();
    promise10LastDay();
    promises20And21();
    CHECKS.finish();
  }

  // 1, 4 @ 8, in which 8 is lent for a day, 9 for 100 and 10 for good; 2, 16 @ 16, in which lies 3.
  private static PrefixYard lending() {
    PrefixYard x = new PrefixYard();
    x.carveAt(0, 8, 4, 1);
    x.carveAt(0, 16, 16, 2);
    x.carveAt(2, 16, 2, 3);
    x.lend(1, 1);
    x.lend(1, 100);
    x.lend(1, 0);
    return x;
  }

  private static void promise8Lend() {
    PrefixYard x = lending();
    CHECKS.due("the lowest that is free", x.lend(1, 7), 11);
    x.takeBack(9);
    CHECKS.due("one that was taken back", x.lend(1, 7), 9);
    x.pass(1);
    CHECKS.due("one that is free again", x.lend(1, 7), 8);
    PrefixYard y = new PrefixYard();
    CHECKS.due("of the whole", y.lend(0, 100), 0);
    CHECKS.due("the next of the whole", y.lend(0, 0), 1);
  }

  private static void promise8Refused() {
    for (int span : new int[] {-1, 4, 60, Integer.MAX_VALUE, Integer.MIN_VALUE}) {
      CHECKS.refused("lend(" + span + ", -1)", Checks.NO_SUCH, LendingTest::lending, x -> x.lend(span, -1));
    }
    for (int days : new int[] {-1, 101, Integer.MAX_VALUE, Integer.MIN_VALUE}) {
      CHECKS.refused("lend(2, " + days + ")", Checks.BAD_ARGUMENT, LendingTest::lending, x -> x.lend(2, days));
    }
    CHECKS.refused("spans in it", Checks.BAD_STATE, LendingTest::lending, x -> x.lend(2, 1));
    CHECKS.refused("spans in the whole", Checks.BAD_STATE, LendingTest::lending, x -> x.lend(0, 0));
    CHECKS.refused("none is free", Checks.BAD_STATE, LendingTest::allLent, x -> x.lend(1, 0));
    CHECKS.refused("none is free, bad days", Checks.BAD_ARGUMENT, LendingTest::allLent, x -> x.lend(1, 101));
  }

  private static PrefixYard allLent() {
    PrefixYard x = lending();
    x.lend(1, 0);
    return x;
  }

  private static PrefixYard twoHundredLent() {
    PrefixYard x = new PrefixYard();
    x.carveAt(0, 256, 1, 0);
    x.carveAt(0, 0, 256, 0);
    for (int address = 0; address < 200; address++) {
      x.lend(2, address % 3);
    }
    return x;
  }

  private static void promise8AtMost200() {
    CHECKS.refused("200 are lent", Checks.BAD_STATE, LendingTest::twoHundredLent, x -> x.lend(2, 0));
    CHECKS.refused("200 are lent in another span", Checks.BAD_STATE, LendingTest::twoHundredLent, x -> x.lend(1, 0));
    PrefixYard x = twoHundredLent();
    CHECKS.due("lent", x.lent(), 200);
    CHECKS.due("takeBack", x.takeBack(50), 2);
    CHECKS.due("one more", x.lend(1, 0), 256);
    CHECKS.due("those lent for a day", x.pass(1), 67);
    CHECKS.due("lent then", x.lent(), 133);
    CHECKS.due("the lowest", x.lend(2, 0), 1);
  }

  private static void promise9TakeBack() {
    PrefixYard x = lending();
    CHECKS.due("for a day", x.takeBack(8), 1);
    CHECKS.due("for 100 days", x.takeBack(9), 100);
    CHECKS.due("for good", x.takeBack(10), 0);
    CHECKS.due("none is lent", x.lent(), 0);
    x.lend(1, 100);
    x.lend(1, 0);
    x.pass(99);
    CHECKS.due("the last day", x.takeBack(8), 1);
    CHECKS.due("for good, later", x.takeBack(9), 0);
    x.lend(1, 3);
    x.pass(1);
    CHECKS.due("two days are left", x.takeBack(8), 2);
    PrefixYard y = new PrefixYard();
    y.carveAt(0, 4095, 1, 0);
    y.carveAt(0, 0, 1, 0);
    y.lend(1, 5);
    y.lend(2, 6);
    CHECKS.due("the last address", y.takeBack(4095), 5);
    CHECKS.due("the first address", y.takeBack(0), 6);
  }

  private static void promise9Refused() {
    for (int address : new int[] {-1, 4096, Integer.MAX_VALUE, Integer.MIN_VALUE}) {
      CHECKS.refused("takeBack(" + address + ")", Checks.NO_SUCH, LendingTest::lending, x -> x.takeBack(address));
    }
    for (int address : new int[] {0, 7, 11, 16, 4095}) {
      CHECKS.refused("takeBack(" + address + ")", Checks.BAD_STATE, LendingTest::lending, x -> x.takeBack(address));
    }
    CHECKS.refused("free again", Checks.BAD_STATE, LendingTest::aDayLater, x -> x.takeBack(8));
  }

  private static PrefixYard aDayLater() {
    PrefixYard x = lending();
    x.pass(1);
    return x;
  }

  private static void promise10Pass() {
    PrefixYard x = lending();
    CHECKS.due("a day", x.pass(1), 1);
    CHECKS.due("day", x.day(), 1);
    CHECKS.due("until a day before the end", x.pass(98), 0);
    CHECKS.due("it is still lent", x.isLent(9), true);
    CHECKS.due("the last day goes by", x.pass(1), 1);
    CHECKS.due("it is free", x.isLent(9), false);
    CHECKS.due("for good is for good", x.pass(1000), 0);
    CHECKS.due("it is still lent for good", x.isLent(10), true);
    CHECKS.due("day then", x.day(), 1100);
    PrefixYard y = lending();
    CHECKS.due("all at once", y.pass(1000), 2);
    CHECKS.due("lent then", y.lent(), 1);
    CHECKS.due("nothing once more", y.pass(1), 0);
  }

  private static void promise10Refused() {
    for (int days : new int[] {0, -1, 1001, Integer.MAX_VALUE, Integer.MIN_VALUE}) {
      CHECKS.refused("pass(" + days + ")", Checks.BAD_ARGUMENT, LendingTest::lending, x -> x.pass(days));
      CHECKS.refused("late pass(" + days + ")", Checks.BAD_ARGUMENT, () -> onDay(100000), x -> x.pass(days));
    }
    CHECKS.refused("a day too many", Checks.BAD_STATE, () -> onDay(100000), x -> x.pass(1));
    CHECKS.refused("1000 days too many", Checks.BAD_STATE, () -> onDay(100000), x -> x.pass(1000));
    CHECKS.refused("one of two too many", Checks.BAD_STATE, () -> onDay(99999), x -> x.pass(2));
  }

  private static PrefixYard onDay(int day) {
    PrefixYard x = new PrefixYard();
    for (int count = 0; count < day / 1000; count++) {
      x.pass(1000);
    }
    if (day % 1000 > 0) {
      x.pass(day % 1000);
    }
    x.carve(0, 4, 1, 0);
    x.lend(1, 1);
    x.lend(1, 100);
    x.lend(1, 0);
    return x;
  }

  private static void promise10LastDay() {
    PrefixYard x = onDay(99999);
    CHECKS.due("to the last day", x.pass(1), 1);
    CHECKS.due("the last day", x.day(), 100000);
    CHECKS.due("beyond it", x.takeBack(1), 99);
    CHECKS.due("lend on the last day", x.lend(1, 100), 0);
    CHECKS.due("what it was lent for", x.takeBack(0), 100);
    PrefixYard y = onDay(99000);
    CHECKS.due("1000 to the last day", y.pass(1000), 2);
    CHECKS.due("the last day then", y.day(), 100000);
  }

  private static void promises20And21() {
    PrefixYard x = lending();
    CHECKS.due("lent", x.lent(), 3);
    CHECKS.due("isLent(8)", x.isLent(8), true);
    CHECKS.due("isLent(10)", x.isLent(10), true);
    CHECKS.due("isLent(11)", x.isLent(11), false);
    CHECKS.due("isLent(0)", x.isLent(0), false);
    CHECKS.due("isLent(4095)", x.isLent(4095), false);
    x.takeBack(10);
    CHECKS.due("lent after one came back", x.lent(), 2);
    CHECKS.due("that one", x.isLent(10), false);
    for (int address : new int[] {-1, 4096, Integer.MAX_VALUE, Integer.MIN_VALUE}) {
      CHECKS.refused("isLent(" + address + ")", Checks.NO_SUCH, LendingTest::lending, y -> y.isLent(address));
    }
  }
}
