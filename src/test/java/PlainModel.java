import java.util.ArrayList;
import java.util.Comparator;
import java.util.List;

/**
 * The document once more, in another form than the class: a list of entries, and the order of
 * leaving as a sorted copy of it. What the tests ask of both must be answered alike.
 */
final class PlainModel {
    static final class Entry {
        int thing;
        int size;
        int price;
        int frequency = 1;
        int end;
        long worth;
        int touched;
        boolean pinned;
    }

    final List<Entry> entries = new ArrayList<>();
    final Integer[] missedAt = new Integer[32];
    int time;
    long clock;
    int capacity = 100;
    int threshold = 1000;
    int touches;
    int hits;
    int misses;
    long bytesHit;
    long saved;
    long paid;
    int left;
    int removedOver;

    int fetch(int thing, int size, int price, int lifetime) {
        Entry old = found(thing);
        check(size >= 1 && size <= 1000 && price >= 0 && price <= 1000 && lifetime >= 1 && lifetime <= 10000);
        if (old != null && time < old.end && old.size == size) {
            old.frequency++;
            old.price = price;
            touch(old);
            hits++;
            bytesHit += size;
            saved += price;
            return 0;
        }
        misses++;
        paid += price;
        Integer before = missedAt[thing];
        missedAt[thing] = time;
        if (old != null) {
            removedOver += time >= old.end ? 1 : 0;
            entries.remove(old);
        }
        if (size > capacity || size > threshold && (before == null || time - before > 50)) {
            return 2;
        }
        if (sum(entries) + size > capacity) {
            purge();
        }
        if (sum(pinned()) + size > capacity) {
            return 2;
        }
        shrink(capacity - size);
        Entry made = new Entry();
        made.thing = thing;
        made.size = size;
        made.price = price;
        made.end = time + lifetime;
        touch(made);
        entries.add(made);
        return 1;
    }

    int pass(int ticks) {
        check(ticks >= 1 && ticks <= 10000);
        return time += ticks;
    }

    boolean pin(int thing, boolean isPinned) {
        Entry entry = findOrRefuse(thing);
        boolean was = entry.pinned;
        entry.pinned = isPinned;
        return was;
    }

    int drop(int thing) {
        Entry entry = findOrRefuse(thing);
        entries.remove(entry);
        return entry.size;
    }

    int purge() {
        int before = entries.size();
        entries.removeIf(entry -> time >= entry.end);
        removedOver += before - entries.size();
        return before - entries.size();
    }

    int setCapacity(int to) {
        check(to >= 1 && to <= 10000);
        List<Entry> stay = pinned();
        stay.removeIf(entry -> time >= entry.end);
        if (sum(stay) > to) {
            throw new IllegalStateException();
        }
        capacity = to;
        if (sum(entries) > to) {
            purge();
        }
        return shrink(to);
    }

    int setThreshold(int to) {
        check(to >= 1 && to <= 1000);
        int before = threshold;
        threshold = to;
        return before;
    }

    int leaving(int place) {
        List<Entry> order = order();
        if (place < 0 || place >= order.size()) {
            throw new IndexOutOfBoundsException();
        }
        return order.get(place).thing;
    }

    /** Does it, in a copy, with a thing that no other has. */
    int wouldLeave(int size) {
        check(size >= 1 && size <= 1000);
        PlainModel copy = new PlainModel();
        copy.capacity = capacity;
        copy.time = time;
        copy.entries.addAll(entries);
        if (size > capacity) {
            return -1;
        }
        if (sum(entries) + size > capacity) {
            copy.purge();
        }
        return sum(copy.pinned()) + size > capacity ? -1 : copy.shrink(capacity - size);
    }

    boolean has(int thing) {
        return found(thing) != null;
    }

    boolean isOver(int thing) {
        Entry entry = found(thing);
        return entry != null && time >= entry.end;
    }

    int sizeOf(int thing) {
        Entry entry = found(thing);
        return entry == null ? 0 : entry.size;
    }

    int frequencyOf(int thing) {
        Entry entry = found(thing);
        return entry == null ? 0 : entry.frequency;
    }

    long worthOf(int thing) {
        Entry entry = found(thing);
        return entry == null ? -1 : entry.worth;
    }

    int endOf(int thing) {
        Entry entry = found(thing);
        return entry == null ? -1 : entry.end;
    }

    int placeOf(int thing) {
        return order().indexOf(found(thing));
    }

    int endsFirst() {
        return entries.stream()
                .min(Comparator.<Entry>comparingInt(e -> e.end).thenComparingInt(e -> e.thing))
                .map(e -> e.thing).orElse(-1);
    }

    private void touch(Entry entry) {
        entry.touched = ++touches;
        entry.worth = clock + Math.floorDiv(1000L * entry.frequency * entry.price, (long) entry.size);
    }

    private List<Entry> order() {
        List<Entry> order = new ArrayList<>(entries);
        order.removeIf(entry -> entry.pinned);
        order.sort(Comparator.<Entry>comparingLong(e -> e.worth).thenComparingInt(e -> e.touched));
        return order;
    }

    private List<Entry> pinned() {
        List<Entry> pinned = new ArrayList<>(entries);
        pinned.removeIf(entry -> !entry.pinned);
        return pinned;
    }

    private int shrink(int to) {
        int count = 0;
        for (Entry entry : order()) {
            if (sum(entries) > to) {
                entries.remove(entry);
                clock = Math.max(clock, entry.worth);
                left++;
                count++;
            }
        }
        return count;
    }

    static int sum(List<Entry> some) {
        return some.stream().mapToInt(entry -> entry.size).sum();
    }

    private Entry found(int thing) {
        if (thing < 0 || thing > 31) {
            throw new IndexOutOfBoundsException();
        }
        return entries.stream().filter(entry -> entry.thing == thing).findFirst().orElse(null);
    }

    private Entry findOrRefuse(int thing) {
        Entry entry = found(thing);
        if (entry == null) {
            throw new IllegalStateException();
        }
        return entry;
    }

    private static void check(boolean holds) {
        if (!holds) {
            throw new IllegalArgumentException();
        }
    }
}
