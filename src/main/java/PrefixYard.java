/**
 * A book of network addresses: spans lie in spans, each begins at a multiple of its size; new spans
 * are carved where they fit best, or where there is most room, spans grow by doubling, single
 * addresses are lent for a time or kept for good, and questions tell what is free, what is in the
 * way of a larger span, and by how few blocks the addresses of an owner can be told outside.
 */
public final class PrefixYard {
    private static final int ADDRESSES = 4096;
    private static final int GREATEST_CARVED = 2048;
    private static final int MOST_MADE = 60;
    private static final int OWNERS = 8;
    private static final int MOST_LENT = 200;
    private static final int MOST_DAYS_LENT = 100;
    private static final int MOST_DAYS_PASSED = 1000;
    private static final int LAST_DAY = 100000;

    private static final int BEST_FIT = 0;
    private static final int APART = 2;

    private static final int NOT_LENT = 0;
    private static final int FOR_GOOD = -1;
    private static final int NONE = -1;

    private static final class Span {
        final int number;
        final Span parent;
        int base;
        int size;
        int owner;

        Span(int number, Span parent, int base, int size, int owner) {
            this.number = number;
            this.parent = parent;
            this.base = base;
            this.size = size;
            this.owner = owner;
        }

        int end() {
            return base + size;
        }

        boolean has(int address) {
            return address >= base && address < end();
        }

        boolean meets(int otherBase, int otherSize) {
            return base < otherBase + otherSize && otherBase < end();
        }
    }

    private final Span whole;
    // By number; null where none was made yet and where one was removed, as numbers never come again.
    private final Span[] made;
    private int madeCount;

    // For each address NOT_LENT, FOR_GOOD, or the first day on which it is free again.
    private final int[] freeFrom;
    private int lentCount;
    private int today;

    // For each address the number of its nearest span; only as good as rowStands says.
    private final int[] row;
    private boolean rowStands;

    public PrefixYard() {
        whole = new Span(0, null, 0, ADDRESSES, 0);
        made = new Span[MOST_MADE];
        made[0] = whole;
        madeCount = 1;
        freeFrom = new int[ADDRESSES];
        lentCount = 0;
        today = 0;
        row = new int[ADDRESSES];
        rowStands = false;
    }

    // ---- spans.

    public int carve(int parent, int size, int owner, int way)
            throws IndexOutOfBoundsException, IllegalArgumentException, IllegalStateException {
        Span in = spanOf(parent);
        checkSize(size);
        checkOwner(owner);
        if (way < BEST_FIT || way > APART) {
            throw new IllegalArgumentException("the way is not 0 to 2");
        }
        checkCarving(in, size);
        int block = chosenBlock(in, size, way == BEST_FIT);
        if (block == NONE) {
            throw new IllegalStateException("no free block of the size");
        }
        int room = roomAt(in, block);
        int base = way == APART && room > size ? block + room / 2 : block;
        return makeSpan(in, base, size, owner);
    }

    public int carveAt(int parent, int base, int size, int owner)
            throws IndexOutOfBoundsException, IllegalArgumentException, IllegalStateException {
        Span in = spanOf(parent);
        checkSize(size);
        checkOwner(owner);
        if (base < 0 || (base & (size - 1)) != 0) {
            throw new IllegalArgumentException("the base is below 0 or no multiple of the size");
        }
        checkCarving(in, size);
        // A base that lies in the span is far from the greatest int, so that base + size is right;
        // the block lies in the span too then, as it is less and both begin at multiples.
        if (!in.has(base) || countChildren(in, base, size) > 0) {
            throw new IllegalStateException("no such free block");
        }
        return makeSpan(in, base, size, owner);
    }

    public int remove(int span) throws IndexOutOfBoundsException, IllegalStateException {
        Span gone = spanOf(span);
        if (gone.parent == null || hasChildren(gone) || countLent(gone.base, gone.end()) > 0) {
            throw new IllegalStateException("the span cannot be removed");
        }
        made[span] = null;
        rowStands = false;
        return gone.size;
    }

    public int grow(int span) throws IndexOutOfBoundsException, IllegalStateException {
        Span grown = spanOf(span);
        Span in = grown.parent;
        int twice = 2 * grown.size;
        if (in == null || twice >= in.size) {
            throw new IllegalStateException("the span cannot be doubled in its parent");
        }
        int base = grown.base & -twice;
        // The span itself is one of those that the block meets.
        if (countChildren(in, base, twice) > 1) {
            throw new IllegalStateException("another span is in the way");
        }
        grown.base = base;
        grown.size = twice;
        rowStands = false;
        return base;
    }

    public int halve(int span) throws IndexOutOfBoundsException, IllegalStateException {
        Span halved = spanOf(span);
        int half = halved.size / 2;
        int cut = halved.base + half;
        if (halved.parent == null || half == 0) {
            throw new IllegalStateException("the whole, or a single address");
        }
        if (countChildren(halved, cut, half) > 0 || countLent(cut, halved.end()) > 0) {
            throw new IllegalStateException("the second half is in use");
        }
        halved.size = half;
        rowStands = false;
        return half;
    }

    public int setOwner(int span, int owner) throws IndexOutOfBoundsException, IllegalArgumentException {
        Span owned = spanOf(span);
        checkOwner(owner);
        int before = owned.owner;
        owned.owner = owner;
        return before;
    }

    // ---- addresses that are lent, and days.

    public int lend(int span, int days)
            throws IndexOutOfBoundsException, IllegalArgumentException, IllegalStateException {
        Span lender = spanOf(span);
        if (days < 0 || days > MOST_DAYS_LENT) {
            throw new IllegalArgumentException("the days are not 0 to 100");
        }
        if (lentCount >= MOST_LENT || hasChildren(lender)) {
            throw new IllegalStateException("200 are lent, or there are spans in the span");
        }
        int address = lowestFree(lender);
        if (!isAddress(address)) {
            throw new IllegalStateException("no address of the span is free");
        }
        freeFrom[address] = days == 0 ? FOR_GOOD : today + days;
        lentCount++;
        return address;
    }

    public int takeBack(int address) throws IndexOutOfBoundsException, IllegalStateException {
        checkAddress(address);
        int until = freeFrom[address];
        if (until == NOT_LENT) {
            throw new IllegalStateException("the address is not lent");
        }
        freeFrom[address] = NOT_LENT;
        lentCount--;
        return until == FOR_GOOD ? 0 : until - today;
    }

    public int pass(int days) throws IllegalArgumentException, IllegalStateException {
        if (days < 1 || days > MOST_DAYS_PASSED) {
            throw new IllegalArgumentException("the days are not 1 to 1000");
        }
        if (days > LAST_DAY - today) {
            throw new IllegalStateException("the day would be above 100000");
        }
        today += days;
        int freed = 0;
        for (int address = 0; address < freeFrom.length; address++) {
            int until = freeFrom[address];
            if (until != NOT_LENT && until != FOR_GOOD && until <= today) {
                freeFrom[address] = NOT_LENT;
                freed++;
            }
        }
        lentCount -= freed;
        return freed;
    }

    // ---- what there is; nothing from here on changes anything.

    public int day() {
        return today;
    }

    public int spans() {
        int count = 0;
        for (Span span : made) {
            if (span != null) {
                count++;
            }
        }
        return count;
    }

    public boolean isThere(int span) {
        return findSpan(span) != null;
    }

    public int base(int span) throws IndexOutOfBoundsException {
        return spanOf(span).base;
    }

    public int size(int span) throws IndexOutOfBoundsException {
        return spanOf(span).size;
    }

    public int parent(int span) throws IndexOutOfBoundsException {
        Span in = spanOf(span).parent;
        return in == null ? NONE : in.number;
    }

    public int free(int span) throws IndexOutOfBoundsException {
        Span asked = spanOf(span);
        return outsideChildren(asked) - lentInItself(asked);
    }

    public int greatestFree(int span) throws IndexOutOfBoundsException {
        Span asked = spanOf(span);
        int block = chosenBlock(asked, 1, false);
        if (block == NONE) {
            return 0;
        }
        int room = roomAt(asked, block);
        // The span itself does not count, but its halves do.
        return room < asked.size ? room : asked.size / 2;
    }

    public int inTheWay(int span, int size) throws IndexOutOfBoundsException, IllegalArgumentException {
        Span asked = spanOf(span);
        checkSize(size);
        if (size >= asked.size) {
            return NONE;
        }
        int least = MOST_MADE;
        int at = asked.base;
        for (int step = 0; step < ADDRESSES && at < asked.end() && least > 0; step++) {
            least = Math.min(least, countChildren(asked, at, size));
            Span taker = childAt(asked, at);
            // In all blocks of a greater span just that span is in the way: one of them is enough.
            at = taker != null && taker.size > size ? taker.end() : at + size;
        }
        return least;
    }

    public int lent() {
        return lentCount;
    }

    public boolean isLent(int address) throws IndexOutOfBoundsException {
        checkAddress(address);
        return freeFrom[address] != NOT_LENT;
    }

    // ---- whose addresses are.

    public int nearest(int address) throws IndexOutOfBoundsException {
        checkAddress(address);
        Span at = whole;
        for (int depth = 0; depth < MOST_MADE; depth++) {
            Span inner = childAt(at, address);
            if (inner == null) {
                return at.number;
            }
            at = inner;
        }
        return at.number;
    }

    public int nearestByRow(int address) throws IndexOutOfBoundsException {
        checkAddress(address);
        layRow();
        return row[address];
    }

    public int owned(int owner) throws IllegalArgumentException {
        checkOwner(owner);
        int count = 0;
        for (Span span : made) {
            if (span != null && span.owner == owner) {
                count += outsideChildren(span);
            }
        }
        return count;
    }

    public int blocks(int owner) throws IllegalArgumentException {
        checkOwner(owner);
        layRow();
        int count = 0;
        int start = 0;
        for (int address = 0; address < row.length; address++) {
            Span nearest = findSpan(row[address]);
            if (nearest == null || nearest.owner != owner) {
                count += countBlocks(start, address);
                start = address + 1;
            }
        }
        return count + countBlocks(start, row.length);
    }

    // ---- what the calls ask of their arguments.

    private Span findSpan(int number) {
        return number < 0 || number >= made.length ? null : made[number];
    }

    private Span spanOf(int number) {
        Span span = findSpan(number);
        if (span == null) {
            throw new IndexOutOfBoundsException("no such span");
        }
        return span;
    }

    private static boolean isAddress(int address) {
        return address >= 0 && address < ADDRESSES;
    }

    private static void checkAddress(int address) {
        if (!isAddress(address)) {
            throw new IndexOutOfBoundsException("no such address");
        }
    }

    private static void checkSize(int size) {
        if (size < 1 || size > GREATEST_CARVED || (size & (size - 1)) != 0) {
            throw new IllegalArgumentException("the size is not 1 to 2048, or no power of 2");
        }
    }

    private static void checkOwner(int owner) {
        if (owner < 0 || owner >= OWNERS) {
            throw new IllegalArgumentException("the owner is not 0 to 7");
        }
    }

    private void checkCarving(Span in, int size) {
        if (madeCount >= MOST_MADE || size >= in.size || lentInItself(in) > 0) {
            throw new IllegalStateException("nothing of the size can be carved in the span");
        }
    }

    // ---- the tree of spans.

    private int makeSpan(Span in, int base, int size, int owner) {
        int number = madeCount;
        if (number >= made.length) {
            throw new IllegalStateException("60 spans were made");
        }
        made[number] = new Span(number, in, base, size, owner);
        madeCount++;
        rowStands = false;
        return number;
    }

    private Span childAt(Span in, int address) {
        for (Span span : made) {
            if (span != null && span.parent == in && span.has(address)) {
                return span;
            }
        }
        return null;
    }

    private int countChildren(Span in, int base, int size) {
        int count = 0;
        for (Span span : made) {
            if (span != null && span.parent == in && span.meets(base, size)) {
                count++;
            }
        }
        return count;
    }

    private boolean hasChildren(Span in) {
        return countChildren(in, in.base, in.size) > 0;
    }

    private int outsideChildren(Span in) {
        int count = in.size;
        for (Span span : made) {
            if (span != null && span.parent == in) {
                count -= span.size;
            }
        }
        return count;
    }

    // ---- blocks.

    private int chosenBlock(Span in, int size, boolean least) {
        int chosen = NONE;
        int chosenRoom = 0;
        int at = in.base;
        // In a gap between spans the greatest block that begins where the one before it ends is a
        // whole one, so that a walk from below meets just the whole free blocks, the lowest first.
        for (int step = 0; step < ADDRESSES && at < in.end(); step++) {
            Span taker = childAt(in, at);
            if (taker != null) {
                at = taker.end();
                continue;
            }
            int room = roomAt(in, at);
            boolean better = chosen == NONE || (least ? room < chosenRoom : room > chosenRoom);
            if (room >= size && better) {
                chosen = at;
                chosenRoom = room;
            }
            at += room;
        }
        return chosen;
    }

    // Asked only of addresses that no span in the span has: just spans above can bound the block then.
    private int roomAt(Span in, int at) {
        int end = in.end();
        for (Span span : made) {
            if (span != null && span.parent == in && span.base > at) {
                end = Math.min(end, span.base);
            }
        }
        return greatestBlock(at, end);
    }

    private static int greatestBlock(int at, int end) {
        int size = 1;
        for (int twice = 2; twice <= end - at && twice <= ADDRESSES && (at & (twice - 1)) == 0; twice *= 2) {
            size = twice;
        }
        return size;
    }

    private static int countBlocks(int start, int end) {
        int count = 0;
        int at = start;
        while (at < end && count < ADDRESSES) {
            at += greatestBlock(at, end);
            count++;
        }
        return count;
    }

    // ---- addresses that are lent.

    private int countLent(int start, int end) {
        int count = 0;
        for (int address = start; address < end && isAddress(address); address++) {
            if (freeFrom[address] != NOT_LENT) {
                count++;
            }
        }
        return count;
    }

    // Addresses of spans in a span are lent in those, and not in it.
    private int lentInItself(Span in) {
        return lentCount == 0 || hasChildren(in) ? 0 : countLent(in.base, in.end());
    }

    private int lowestFree(Span in) {
        for (int address = in.base; address < in.end() && isAddress(address); address++) {
            if (freeFrom[address] == NOT_LENT) {
                return address;
            }
        }
        return NONE;
    }

    // ---- the row of all addresses.

    private void layRow() {
        if (rowStands) {
            return;
        }
        for (int size = ADDRESSES; size >= 1; size /= 2) {
            // Of alike spans one in another was made later than that: the numbers' order is the due one.
            for (Span span : made) {
                if (span != null && span.size == size) {
                    laySpan(span);
                }
            }
        }
        rowStands = true;
    }

    private void laySpan(Span span) {
        for (int address = span.base; address < span.end() && isAddress(address); address++) {
            row[address] = span.number;
        }
    }
}
