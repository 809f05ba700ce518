/**
 * A cache of things of unequal sizes and prices: what is least worth keeping for its bytes leaves
 * first, by price, frequency and size, over a clock that goes up with what has left.
 */
public final class WorthCache {
    /** There is none. */
    public static final int NONE = -1;
    /** What became of a fetch: a hit, a miss that was let in, a miss that was not. */
    public static final int HIT = 0, LET_IN = 1, KEPT_OUT = 2;

    private static final int THINGS = 32;
    private static final int MOST_SIZE = 1000;
    private static final int MOST_PRICE = 1000;
    private static final int MOST_LIFETIME = 10000;
    private static final int MOST_TICKS = 10000;
    private static final int MOST_CAPACITY = 10000;
    private static final int MOST_THRESHOLD = 1000;
    private static final int FIRST_CAPACITY = 100;
    private static final int FIRST_THRESHOLD = 1000;
    private static final int LATELY = 50;
    private static final int NEVER = -1;
    private static final long WORTH_SCALE = 1000;

    /**
     * What is known of one thing. A slot is made once and filled again for each entry of its
     * thing, so that no call makes an object.
     */
    private static final class Slot {
        private final int thing;
        private boolean isFilled;
        private boolean isPinned;
        private int size;
        private int frequency;
        private int end;
        private long worth;
        // Uses are numbered, as the time can stand still between two of them.
        private long lastUse;
        // Stands outside the entry: a miss counts whether or not it was let in.
        private int lastMiss = NEVER;

        private Slot(int thing) {
            this.thing = thing;
        }
    }

    private final Slot[] slots = new Slot[THINGS];
    private int time;
    private long clock;
    private int capacity = FIRST_CAPACITY;
    private int threshold = FIRST_THRESHOLD;
    private long uses;
    private int hits;
    private int misses;
    private long bytesHit;
    private long saved;
    private long paid;
    private int left;
    private int removedOver;

    /** Creates an empty cache. */
    public WorthCache() {
        for (int thing = 0; thing < slots.length; thing++) {
            slots[thing] = new Slot(thing);
        }
    }

    // ---- what happens

    /** Fetches a thing: HIT, LET_IN or KEPT_OUT. */
    public int fetch(int thing, int size, int price, int lifetime)
            throws IndexOutOfBoundsException, IllegalArgumentException {
        Slot slot = slotOf(thing);
        requireWithin(size, 1, MOST_SIZE);
        requireWithin(price, 0, MOST_PRICE);
        requireWithin(lifetime, 1, MOST_LIFETIME);
        if (slot.isFilled && !hasEnded(slot) && slot.size == size) {
            hit(slot, price);
            return HIT;
        }
        countMiss(price);
        return letInIfPossible(slot, size, price, lifetime) ? LET_IN : KEPT_OUT;
    }

    /** Lets time pass, and returns the time then. */
    public int pass(int ticks) throws IllegalArgumentException {
        requireWithin(ticks, 1, MOST_TICKS);
        time += ticks;
        return time;
    }

    /** Pins the entry of a thing, or unpins it; returns whether it was pinned. */
    public boolean pin(int thing, boolean isPinned)
            throws IndexOutOfBoundsException, IllegalStateException {
        Slot slot = filledSlotOf(thing);
        boolean wasPinned = slot.isPinned;
        slot.isPinned = isPinned;
        return wasPinned;
    }

    /** Removes the entry of a thing, and returns its size; the clock stays. */
    public int drop(int thing) throws IndexOutOfBoundsException, IllegalStateException {
        Slot slot = filledSlotOf(thing);
        slot.isFilled = false;
        return slot.size;
    }

    /** Removes all entries that are over, and returns how many there were. */
    public int purge() {
        return removeAllOver();
    }

    /** Changes the capacity, and returns how many entries left in the order of leaving. */
    public int setCapacity(int capacity) throws IllegalArgumentException, IllegalStateException {
        requireWithin(capacity, 1, MOST_CAPACITY);
        if (bytesThatCannotLeave() > capacity) {
            throw new IllegalStateException("the pinned entries are greater than the capacity");
        }
        this.capacity = capacity;
        if (used() <= capacity) {
            return 0;
        }
        removeAllOver();
        return leaveDownTo(capacity);
    }

    /** Changes the threshold, and returns the one before. */
    public int setThreshold(int threshold) throws IllegalArgumentException {
        requireWithin(threshold, 1, MOST_THRESHOLD);
        int before = this.threshold;
        this.threshold = threshold;
        return before;
    }

    // ---- entries

    /** Tells whether a thing has an entry, over or not. */
    public boolean has(int thing) throws IndexOutOfBoundsException {
        return slotOf(thing).isFilled;
    }

    /** Tells whether the entry of a thing is over; false if it has none. */
    public boolean isOver(int thing) throws IndexOutOfBoundsException {
        Slot slot = slotOf(thing);
        return slot.isFilled && hasEnded(slot);
    }

    /** Returns the size of the entry of a thing; 0 if it has none. */
    public int sizeOf(int thing) throws IndexOutOfBoundsException {
        Slot slot = slotOf(thing);
        return slot.isFilled ? slot.size : 0;
    }

    /** Returns the frequency of the entry of a thing; 0 if it has none. */
    public int frequencyOf(int thing) throws IndexOutOfBoundsException {
        Slot slot = slotOf(thing);
        return slot.isFilled ? slot.frequency : 0;
    }

    /** Returns the worth of the entry of a thing; NONE if it has none. */
    public long worthOf(int thing) throws IndexOutOfBoundsException {
        Slot slot = slotOf(thing);
        return slot.isFilled ? slot.worth : NONE;
    }

    /** Returns the end of the entry of a thing; NONE if it has none. */
    public int endOf(int thing) throws IndexOutOfBoundsException {
        Slot slot = slotOf(thing);
        return slot.isFilled ? slot.end : NONE;
    }

    /** Returns the thing whose entry has a place in the order of leaving, over or not. */
    public int leaving(int place) throws IndexOutOfBoundsException {
        Slot slot = place < 0 || place >= THINGS ? null : firstInOrder();
        for (int at = 0; at < place && slot != null; at++) {
            slot = nextInOrder(slot);
        }
        if (slot == null) {
            throw new IndexOutOfBoundsException("the order has no such place");
        }
        return slot.thing;
    }

    /** Returns the place of a thing in the order of leaving; NONE without an entry, or pinned. */
    public int placeOf(int thing) throws IndexOutOfBoundsException {
        Slot slot = slotOf(thing);
        if (!isInOrder(slot)) {
            return NONE;
        }
        int place = 0;
        for (Slot other : slots) {
            if (isInOrder(other) && leavesBefore(other, slot)) {
                place++;
            }
        }
        return place;
    }

    /** Returns the thing whose entry ends first, of several the lowest; NONE if there are none. */
    public int endsFirst() {
        Slot first = null;
        for (Slot slot : slots) {
            if (slot.isFilled && (first == null || slot.end < first.end)) {
                first = slot;
            }
        }
        return first == null ? NONE : first.thing;
    }

    /** Returns how many entries would leave to make room for a size; NONE if it stayed out. */
    public int wouldLeave(int size) throws IllegalArgumentException {
        requireWithin(size, 1, MOST_SIZE);
        // A size above the capacity is above what the pinned entries leave of it, too.
        return size > capacity - bytesThatCannotLeave() ? NONE : countThatWouldLeave(size);
    }

    // ---- accounts

    /** Returns the time. */
    public int time() {
        return time;
    }

    /** Returns the clock. */
    public long clock() {
        return clock;
    }

    /** Returns the capacity. */
    public int capacity() {
        return capacity;
    }

    /** Returns how many entries there are, those that are over included. */
    public int entries() {
        int count = 0;
        for (Slot slot : slots) {
            if (slot.isFilled) {
                count++;
            }
        }
        return count;
    }

    /** Returns the sizes of all entries, together. */
    public int used() {
        int bytes = 0;
        for (Slot slot : slots) {
            if (slot.isFilled) {
                bytes += slot.size;
            }
        }
        return bytes;
    }

    /** Returns how many hits there were. */
    public int hits() {
        return hits;
    }

    /** Returns how many misses there were. */
    public int misses() {
        return misses;
    }

    /** Returns the sizes of the things that were hit, each time, together. */
    public long bytesHit() {
        return bytesHit;
    }

    /** Returns the prices that were told at hits, together. */
    public long saved() {
        return saved;
    }

    /** Returns the prices that were told at misses, together. */
    public long paid() {
        return paid;
    }

    /** Returns how many entries have left in the order of leaving. */
    public int left() {
        return left;
    }

    /** Returns how many entries were removed because they were over. */
    public int removedOver() {
        return removedOver;
    }

    // ---- arguments

    private Slot slotOf(int thing) {
        if (thing < 0 || thing >= slots.length) {
            throw new IndexOutOfBoundsException("no such thing");
        }
        return slots[thing];
    }

    private Slot filledSlotOf(int thing) {
        Slot slot = slotOf(thing);
        if (!slot.isFilled) {
            throw new IllegalStateException("the thing has no entry");
        }
        return slot;
    }

    private static void requireWithin(int value, int least, int most) {
        if (value < least || value > most) {
            throw new IllegalArgumentException("an argument is out of its range");
        }
    }

    // ---- the steps of a fetch

    private void hit(Slot slot, int price) {
        slot.frequency++;
        setWorth(slot, price);
        hits++;
        bytesHit += slot.size;
        saved += price;
    }

    private void countMiss(int price) {
        misses++;
        paid += price;
    }

    private boolean letInIfPossible(Slot slot, int size, int price, int lifetime) {
        // Asked before this miss is noted: only an earlier one speaks for the thing.
        boolean isKnown = wasMissedLately(slot);
        slot.lastMiss = time;
        removeOwn(slot);
        if (size > capacity || size > threshold && !isKnown || !makeRoom(size)) {
            return false;
        }
        fill(slot, size, price, lifetime);
        return true;
    }

    private boolean wasMissedLately(Slot slot) {
        return slot.lastMiss != NEVER && time - slot.lastMiss <= LATELY;
    }

    private void removeOwn(Slot slot) {
        if (slot.isFilled && hasEnded(slot)) {
            removedOver++;
        }
        slot.isFilled = false;
    }

    private boolean makeRoom(int size) {
        if (hasRoom(size)) {
            return true;
        }
        removeAllOver();
        if (size > capacity - bytesThatCannotLeave()) {
            return false;
        }
        leaveDownTo(capacity - size);
        return true;
    }

    private void fill(Slot slot, int size, int price, int lifetime) {
        slot.isFilled = true;
        slot.isPinned = false;
        slot.size = size;
        slot.frequency = 1;
        slot.end = time + lifetime;
        setWorth(slot, price);
    }

    private void setWorth(Slot slot, int price) {
        uses++;
        slot.lastUse = uses;
        // No entry has a size below 1; the test keeps the division safe by itself.
        slot.worth = slot.size < 1 ? clock : clock + WORTH_SCALE * slot.frequency * price / slot.size;
    }

    // ---- room

    private boolean hasRoom(int size) {
        return used() <= capacity - size;
    }

    private boolean hasEnded(Slot slot) {
        return time >= slot.end;
    }

    private int removeAllOver() {
        int count = 0;
        for (Slot slot : slots) {
            if (slot.isFilled && hasEnded(slot)) {
                slot.isFilled = false;
                count++;
            }
        }
        removedOver += count;
        return count;
    }

    /** The bytes that stay when all entries are gone that are over or may leave. */
    private int bytesThatCannotLeave() {
        int bytes = 0;
        for (Slot slot : slots) {
            if (slot.isFilled && slot.isPinned && !hasEnded(slot)) {
                bytes += slot.size;
            }
        }
        return bytes;
    }

    private int leaveDownTo(int bytes) {
        int count = 0;
        Slot first = firstInOrder();
        while (count < THINGS && first != null && used() > bytes) {
            first.isFilled = false;
            clock = Math.max(clock, first.worth);
            count++;
            first = firstInOrder();
        }
        left += count;
        return count;
    }

    /** Goes the way of makeRoom without a change; what is over makes room before anything leaves. */
    private int countThatWouldLeave(int size) {
        int bytes = bytesNotOver();
        int count = 0;
        Slot slot = firstInOrder();
        for (int at = 0; at < THINGS && slot != null && bytes > capacity - size; at++) {
            if (!hasEnded(slot)) {
                bytes -= slot.size;
                count++;
            }
            slot = nextInOrder(slot);
        }
        return count;
    }

    private int bytesNotOver() {
        int bytes = 0;
        for (Slot slot : slots) {
            if (slot.isFilled && !hasEnded(slot)) {
                bytes += slot.size;
            }
        }
        return bytes;
    }

    // ---- the order of leaving

    private static boolean isInOrder(Slot slot) {
        return slot.isFilled && !slot.isPinned;
    }

    private static boolean leavesBefore(Slot one, Slot other) {
        return one.worth < other.worth || one.worth == other.worth && one.lastUse < other.lastUse;
    }

    private Slot firstInOrder() {
        return nextInOrder(null);
    }

    /** The slot that comes next behind one in the order; behind null, the first; null at its end. */
    private Slot nextInOrder(Slot behind) {
        Slot next = null;
        for (Slot slot : slots) {
            boolean isBehind = behind == null || leavesBefore(behind, slot);
            if (isInOrder(slot) && isBehind && (next == null || leavesBefore(slot, next))) {
                next = slot;
            }
        }
        return next;
    }
}
