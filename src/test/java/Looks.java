import java.util.function.Supplier;

/**
 * All that can be seen of an object, as a text. As an object is used for 512 calls at most and some
 * looks change it, every look is at a new one, made in the same way with 220 calls at most.
 */
final class Looks {
  private static final int SPANS = 60;
  private static final int ADDRESSES = 4096;
  private static final int ADDRESSES_AT_ONCE = 256;

  private Looks() {
  }

  static String all(Supplier<PrefixYard> made) {
    StringBuilder text = new StringBuilder();
    theSpans(made.get(), text);
    theOwners(made.get(), text);
    theNextSpan(made.get(), text);
    boolean[] lent = new boolean[ADDRESSES];
    for (int start = 0; start < ADDRESSES; start += ADDRESSES_AT_ONCE) {
      whatIsLent(made.get(), start, lent);
    }
    theDaysLent(made.get(), lent, text);
    return text.toString();
  }

  private static void theSpans(PrefixYard x, StringBuilder text) {
    text.append("day ").append(x.day()).append(", spans ").append(x.spans()).append(", lent ").append(x.lent());
    for (int span = -1; span <= SPANS; span++) {
      if (x.isThere(span)) {
        text.append(", ").append(span).append(" in ").append(x.parent(span));
        text.append(": ").append(x.size(span)).append(" @ ").append(x.base(span));
      }
    }
  }

  private static void theOwners(PrefixYard x, StringBuilder text) {
    for (int owner = 0; owner < 8; owner++) {
      text.append(", owned ").append(x.owned(owner)).append(" told by ").append(x.blocks(owner));
    }
    for (int span = 0; span < SPANS; span++) {
      if (x.isThere(span)) {
        text.append(", ").append(x.free(span)).append(" and ").append(x.greatestFree(span)).append(" free");
        text.append(", owner ").append(x.setOwner(span, 0));
      }
    }
  }

  // Its number tells how many were made.
  private static void theNextSpan(PrefixYard x, StringBuilder text) {
    boolean carved = false;
    for (int span = 0; span < SPANS && !carved; span++) {
      int in = span;
      carved = Checks.thrownBy(() -> text.append(", next ").append(x.carve(in, 1, 0, 0))).equals("nothing");
    }
  }

  private static void whatIsLent(PrefixYard x, int start, boolean[] lent) {
    for (int address = start; address < start + ADDRESSES_AT_ONCE; address++) {
      lent[address] = x.isLent(address);
    }
  }

  private static void theDaysLent(PrefixYard x, boolean[] lent, StringBuilder text) {
    for (int address = 0; address < ADDRESSES; address++) {
      if (lent[address]) {
        text.append(", lent ").append(address).append(" for ").append(x.takeBack(address));
      }
    }
  }
}
