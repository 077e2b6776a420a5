import java.util.ArrayList;
import java.util.List;

/** The document's words once more, in the dullest way: every block is looked at, address by address. */
final class Model {
  static final int WHOLE = 4096;

  static final class Node {
    int number;
    int base;
    int size;
    int owner;
    Node parent;
    List<Node> inside = new ArrayList<>();
  }

  private final List<Node> nodes = new ArrayList<>();
  private final boolean[] isLent = new boolean[WHOLE];
  private final boolean[] forGood = new boolean[WHOLE];
  private final int[] lastDay = new int[WHOLE];
  private final boolean[] taken = new boolean[WHOLE];
  private int day = 0;

  Model() {
    Node whole = new Node();
    whole.size = WHOLE;
    nodes.add(whole);
  }

  Node node(int number) {
    if (number < 0 || number >= nodes.size() || nodes.get(number) == null) {
      throw new IndexOutOfBoundsException();
    }
    return nodes.get(number);
  }

  int made() {
    return nodes.size();
  }

  private static void need(boolean argument) {
    if (!argument) {
      throw new IllegalArgumentException();
    }
  }

  private static void needState(boolean state) {
    if (!state) {
      throw new IllegalStateException();
    }
  }

  private static boolean isSize(int size) {
    for (int s = 1; s <= 2048; s += s) {
      if (s == size) {
        return true;
      }
    }
    return false;
  }

  private static boolean isOwner(int owner) {
    return 0 <= owner && owner <= 7;
  }

  // How many addresses below each one are taken by spans in the span.
  private int[] takenBelow(Node in) {
    java.util.Arrays.fill(taken, false);
    for (Node child : in.inside) {
      for (int a = child.base; a < child.base + child.size; a++) {
        taken[a] = true;
      }
    }
    int[] below = new int[WHOLE + 1];
    for (int a = 0; a < WHOLE; a++) {
      below[a + 1] = below[a] + (taken[a] ? 1 : 0);
    }
    return below;
  }

  private static boolean isFree(Node in, int[] below, int base, int size) {
    return base >= in.base && base + size <= in.base + in.size && below[base + size] == below[base];
  }

  private boolean lendsItself(Node in) {
    for (int a = in.base; a < in.base + in.size; a++) {
      if (isLent[a] && nearestNode(a) == in) {
        return true;
      }
    }
    return false;
  }

  private Node nearestNode(int address) {
    Node best = nodes.get(0);
    for (Node node : nodes) {
      if (node != null && address >= node.base && address < node.base + node.size) {
        if (node.size < best.size || node.size == best.size && liesIn(node, best)) {
          best = node;
        }
      }
    }
    return best;
  }

  private static boolean liesIn(Node node, Node other) {
    for (Node up = node.parent; up != null; up = up.parent) {
      if (up == other) {
        return true;
      }
    }
    return false;
  }

  private int make(Node in, int base, int size, int owner) {
    Node node = new Node();
    node.number = nodes.size();
    node.base = base;
    node.size = size;
    node.owner = owner;
    node.parent = in;
    in.inside.add(node);
    nodes.add(node);
    return node.number;
  }

  int carve(int parent, int size, int owner, int way) {
    Node in = node(parent);
    need(isSize(size) && isOwner(owner) && 0 <= way && way <= 2);
    needState(nodes.size() < 60 && !lendsItself(in) && size < in.size);
    int[] below = takenBelow(in);
    int bestBase = -1;
    int bestSize = 0;
    for (int s = size; s <= in.size; s += s) {
      for (int base = 0; base < WHOLE; base += s) {
        int twiceBase = base / (2 * s) * (2 * s);
        boolean whole = isFree(in, below, base, s)
            && (2 * s > WHOLE || !isFree(in, below, twiceBase, 2 * s));
        boolean better = bestBase < 0 || (way == 0 ? s < bestSize : s > bestSize);
        if (whole && better) {
          bestBase = base;
          bestSize = s;
        }
      }
    }
    needState(bestBase >= 0);
    boolean second = way == 2 && bestSize > size;
    return make(in, second ? bestBase + bestSize / 2 : bestBase, size, owner);
  }

  int carveAt(int parent, int base, int size, int owner) {
    Node in = node(parent);
    need(isSize(size) && isOwner(owner) && base >= 0 && base % size == 0);
    needState(nodes.size() < 60 && !lendsItself(in) && size < in.size);
    needState(base < WHOLE && isFree(in, takenBelow(in), base, size));
    return make(in, base, size, owner);
  }

  int remove(int span) {
    Node node = node(span);
    needState(span != 0 && node.inside.isEmpty() && !lendsItself(node));
    node.parent.inside.remove(node);
    nodes.set(span, null);
    return node.size;
  }

  int grow(int span) {
    Node node = node(span);
    needState(span != 0 && 2 * node.size < node.parent.size);
    int base = node.base / (2 * node.size) * (2 * node.size);
    needState(base >= node.parent.base && base + 2 * node.size <= node.parent.base + node.parent.size);
    for (Node other : node.parent.inside) {
      for (int a = other.base; a < other.base + other.size; a++) {
        needState(other == node || a < base || a >= base + 2 * node.size);
      }
    }
    node.base = base;
    node.size *= 2;
    return base;
  }

  int halve(int span) {
    Node node = node(span);
    needState(span != 0 && node.size >= 2);
    int[] below = takenBelow(node);
    for (int a = node.base + node.size / 2; a < node.base + node.size; a++) {
      needState(below[a + 1] == below[a] && !(isLent[a] && nearestNode(a) == node));
    }
    node.size /= 2;
    return node.size;
  }

  int setOwner(int span, int owner) {
    Node node = node(span);
    need(isOwner(owner));
    int before = node.owner;
    node.owner = owner;
    return before;
  }

  int lend(int span, int days) {
    Node node = node(span);
    need(0 <= days && days <= 100);
    needState(node.inside.isEmpty() && lent() < 200);
    for (int a = node.base; a < node.base + node.size; a++) {
      if (!isLent[a]) {
        isLent[a] = true;
        forGood[a] = days == 0;
        lastDay[a] = day + days - 1;
        return a;
      }
    }
    throw new IllegalStateException();
  }

  private static void needAddress(int address) {
    if (address < 0 || address > 4095) {
      throw new IndexOutOfBoundsException();
    }
  }

  int takeBack(int address) {
    needAddress(address);
    needState(isLent[address]);
    isLent[address] = false;
    return forGood[address] ? 0 : lastDay[address] - day + 1;
  }

  int pass(int days) {
    need(1 <= days && days <= 1000);
    needState(day + days <= 100000);
    int freed = 0;
    for (int gone = 0; gone < days; gone++) {
      for (int a = 0; a < WHOLE; a++) {
        if (isLent[a] && !forGood[a] && lastDay[a] == day) {
          isLent[a] = false;
          freed++;
        }
      }
      day++;
    }
    return freed;
  }

  int day() {
    return day;
  }

  int spans() {
    int count = 0;
    for (Node node : nodes) {
      count += node == null ? 0 : 1;
    }
    return count;
  }

  int isThere(int span) {
    return span >= 0 && span < nodes.size() && nodes.get(span) != null ? 1 : 0;
  }

  int parent(int span) {
    Node up = node(span).parent;
    return up == null ? -1 : up.number;
  }

  int free(int span) {
    Node node = node(span);
    int[] below = takenBelow(node);
    int count = 0;
    for (int a = node.base; a < node.base + node.size; a++) {
      count += below[a + 1] == below[a] && !isLent[a] ? 1 : 0;
    }
    return count;
  }

  int greatestFree(int span) {
    Node node = node(span);
    int[] below = takenBelow(node);
    int greatest = 0;
    for (int s = 1; s < node.size; s += s) {
      for (int base = node.base; base < node.base + node.size; base += s) {
        greatest = isFree(node, below, base, s) ? s : greatest;
      }
    }
    return greatest;
  }

  int inTheWay(int span, int size) {
    Node node = node(span);
    need(isSize(size));
    if (size >= node.size) {
      return -1;
    }
    int least = Integer.MAX_VALUE;
    for (int base = node.base; base < node.base + node.size; base += size) {
      int count = 0;
      for (Node child : node.inside) {
        count += child.base + child.size > base && child.base < base + size ? 1 : 0;
      }
      least = Math.min(least, count);
    }
    return least;
  }

  int lent() {
    int count = 0;
    for (boolean one : isLent) {
      count += one ? 1 : 0;
    }
    return count;
  }

  int lentAt(int address) {
    needAddress(address);
    return isLent[address] ? 1 : 0;
  }

  int nearest(int address) {
    needAddress(address);
    return nearestNode(address).number;
  }

  int owned(int owner) {
    need(isOwner(owner));
    int count = 0;
    for (int a = 0; a < WHOLE; a++) {
      count += nearestNode(a).owner == owner ? 1 : 0;
    }
    return count;
  }

  int blocks(int owner) {
    need(isOwner(owner));
    boolean[] its = new boolean[WHOLE];
    for (int a = 0; a < WHOLE; a++) {
      its[a] = nearestNode(a).owner == owner;
    }
    return leastBlocks(its, 0, WHOLE);
  }

  // One block if all of it is the owner's, else what its halves take.
  private static int leastBlocks(boolean[] its, int base, int size) {
    boolean all = true;
    for (int a = base; a < base + size; a++) {
      all &= its[a];
    }
    if (all || size == 1) {
      return all ? 1 : 0;
    }
    return leastBlocks(its, base, size / 2) + leastBlocks(its, base + size / 2, size / 2);
  }
}
