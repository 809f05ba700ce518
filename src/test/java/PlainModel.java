import java.util.ArrayList;
import java.util.Comparator;
import java.util.List;

/**
 * The document once more, in another form than the class: a list of entries, and the order of
 * leaving as a sorted copy of it. What the tests ask of both must be answered alike.
 */
final class PlainModel {
    static final class Entry {
        int thing;
        int size;
        int price;
        int frequency = 1;
        int end;
        long worth;
        int touched;
        boolean pinned;
    }

    final List<Entry> entries = new ArrayList<>();
    final Integer[] missedAt = new Integer[32];
    int time;
    long clock;
    int capacity = 100;
    int threshold = 1000;
    int touches;
    int hits;
    int misses;
    long bytesHit;
    long saved;
    long paid;
    int left;
    int removedOver;

    int fetch(int thing, int size, int price, int lifetime) {
        checkThing(thing);
        check(size >= 1 && size <= 1000 && price >= 0 && price <= 1000 && lifetime >= 1 && lifetime <= 10000);
        Entry old = find(thing);
        if (old != null && time < old.end && old.size == size) {
            old.frequency++;
            old.price = price;
            touch(old);
            hits++;
            bytesHit += size;
            saved += price;
            return 0;
        }
        misses++;
        paid += price;
        Integer before = missedAt[thing];
        missedAt[thing] = time;
        if (old != null) {
            removedOver += time >= old.end ? 1 : 0;
            entries.remove(old);
        }
        if (size > capacity || size > threshold && (before == null || time - before > 50)) {
            return 2;
        }
        if (sum(entries) + size > capacity) {
            purge();
        }
        if (sum(pinned()) + size > capacity) {
            return 2;
        }
        shrink(capacity - size);
        Entry made = new Entry();
        made.thing = thing;
        made.size = size;
        made.price = price;
        made.end = time + lifetime;
        touch(made);
        entries.add(made);
        return 1;
    }

    int pass(int ticks) {
        check(ticks >= 1 && ticks <= 10000);
        return time += ticks;
    }

    boolean pin(int thing, boolean isPinned) {
        Entry entry = findOrRefuse(thing);
        boolean was = entry.pinned;
        entry.pinned = isPinned;
        return was;
    }

    int drop(int thing) {
        Entry entry = findOrRefuse(thing);
        entries.remove(entry);
        return entry.size;
    }

    int purge() {
        int before = entries.size();
        entries.removeIf(entry -> time >= entry.end);
        removedOver += before - entries.size();
        return before - entries.size();
    }

    int setCapacity(int to) {
        check(to >= 1 && to <= 10000);
        List<Entry> stay = pinned();
        stay.removeIf(entry -> time >= entry.end);
        if (sum(stay) > to) {
            throw new IllegalStateException();
        }
        capacity = to;
        if (sum(entries) > to) {
            purge();
        }
        return shrink(to);
    }

    int setThreshold(int to) {
        check(to >= 1 && to <= 1000);
        int before = threshold;
        threshold = to;
        return before;
    }

    int leaving(int place) {
        List<Entry> order = order();
        if (place < 0 || place >= order.size()) {
            throw new IndexOutOfBoundsException();
        }
        return order.get(place).thing;
    }

    /** Does it, in a copy, with a thing that no other has. */
    int wouldLeave(int size) {
        check(size >= 1 && size <= 1000);
        PlainModel copy = new PlainModel();
        copy.capacity = capacity;
        copy.time = time;
        copy.entries.addAll(entries);
        if (size > capacity) {
            return -1;
        }
        if (copy.sum(entries) + size > capacity) {
            copy.purge();
        }
        return copy.sum(copy.pinned()) + size > capacity ? -1 : copy.shrink(capacity - size);
    }

    String state() {
        StringBuilder text = new StringBuilder();
        List<Entry> order = order();
        for (int thing = 0; thing < 32; thing++) {
            Entry entry = find(thing);
            if (entry != null) {
                text.append(thing).append(": size ").append(entry.size);
                text.append(" frequency ").append(entry.frequency).append(" worth ").append(entry.worth);
                text.append(" end ").append(entry.end).append(" over ").append(time >= entry.end);
                text.append(" place ").append(order.indexOf(entry)).append('\n');
            }
        }
        text.append("time ").append(time).append(" clock ").append(clock);
        text.append(" capacity ").append(capacity);
        text.append(" entries ").append(entries.size()).append(" used ").append(sum(entries));
        text.append(" hits ").append(hits).append(" misses ").append(misses);
        text.append(" bytesHit ").append(bytesHit).append(" saved ").append(saved);
        text.append(" paid ").append(paid).append(" left ").append(left);
        text.append(" removedOver ").append(removedOver);
        int first = entries.stream()
                .min(Comparator.<Entry>comparingInt(e -> e.end).thenComparingInt(e -> e.thing))
                .map(e -> e.thing).orElse(-1);
        text.append(" endsFirst ").append(first);
        return text.toString();
    }

    private void touch(Entry entry) {
        entry.touched = ++touches;
        entry.worth = clock + Math.floorDiv(1000L * entry.frequency * entry.price, (long) entry.size);
    }

    private List<Entry> order() {
        List<Entry> order = new ArrayList<>(entries);
        order.removeIf(entry -> entry.pinned);
        order.sort(Comparator.<Entry>comparingLong(e -> e.worth).thenComparingInt(e -> e.touched));
        return order;
    }

    private List<Entry> pinned() {
        List<Entry> pinned = new ArrayList<>(entries);
        pinned.removeIf(entry -> !entry.pinned);
        return pinned;
    }

    private int shrink(int to) {
        int count = 0;
        for (Entry entry : order()) {
            if (sum(entries) > to) {
                entries.remove(entry);
                clock = Math.max(clock, entry.worth);
                left++;
                count++;
            }
        }
        return count;
    }

    private int sum(List<Entry> some) {
        return some.stream().mapToInt(entry -> entry.size).sum();
    }

    private Entry find(int thing) {
        return entries.stream().filter(entry -> entry.thing == thing).findFirst().orElse(null);
    }

    private Entry findOrRefuse(int thing) {
        checkThing(thing);
        Entry entry = find(thing);
        if (entry == null) {
            throw new IllegalStateException();
        }
        return entry;
    }

    private static void checkThing(int thing) {
        if (thing < 0 || thing > 31) {
            throw new IndexOutOfBoundsException();
        }
    }

    private static void check(boolean holds) {
        if (!holds) {
            throw new IllegalArgumentException();
        }
    }
}
