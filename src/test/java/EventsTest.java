/** Promises 3 to 8: the other calls that change something. */
final class EventsTest {
    static void run(Checks checks) {
        pass(checks);
        pin(checks);
        drop(checks);
        purge(checks);
        capacityRange(checks);
        capacityLeave(checks);
        capacityOver(checks);
        capacityPinned(checks);
        threshold(checks);
    }

    private static void pass(Checks checks) {
        checks.script("promise 3, pass: 1, the least of ticks; it returns the time then", """
                pass(1) = 1
                pass(1) = 2
                time() = 2
                """);
        checks.script("promise 3, pass: 10000, the greatest of ticks", """
                pass(10000) = 10000
                pass(10000) = 20000
                time() = 20000
                """);
        checks.script("promise 3, pass: entries are over by it as soon as the time is their end", """
                fetch(0, 10, 1, 5) = LET_IN
                pass(4) = 4
                isOver(0) = false
                pass(1) = 5
                isOver(0) = true
                pass(1) = 6
                isOver(0) = true
                """);
        checks.script("promise 3, pass: entries that are over by it stay, pinned or not, in a full cache", """
                setCapacity(32) = 0
                all: fetch(#, 1, 1, 5) = LET_IN
                pin(3, true) = false
                pass(10000) = 10000
                all: isOver(#) = true
                entries() = 32
                used() = 32
                removedOver() = 0
                left() = 0
                clock() = 0
                worthOf(0) = 1000
                frequencyOf(0) = 1
                endOf(0) = 5
                """);
    }

    private static void pin(Checks checks) {
        checks.script("promise 4, pin: pins and unpins, and returns whether it was pinned", """
                fetch(0, 10, 1, 5) = LET_IN
                pin(0, true) = false
                pin(0, true) = true
                pin(0, false) = true
                pin(0, false) = false
                """);
        checks.script("promise 4, pin: thing 0, the first, and thing 31, the last", """
                fetch(0, 10, 1, 5) = LET_IN
                fetch(31, 10, 1, 5) = LET_IN
                pin(0, true) = false
                pin(31, true) = false
                placeOf(0) = NONE
                placeOf(31) = NONE
                """);
        checks.script("promise 4, pin: of this thing alone", """
                fetch(0, 10, 1, 5) = LET_IN
                fetch(1, 10, 1, 5) = LET_IN
                pin(0, true) = false
                pin(1, false) = false
                pin(0, false) = true
                """);
        checks.script("promise 4, pin: of an entry that is over", """
                fetch(0, 10, 1, 5) = LET_IN
                pass(5) = 5
                pin(0, true) = false
                pin(0, false) = true
                isOver(0) = true
                """);
        checks.script("promise 4, pin: it is no use: frequency, worth and the order stay", """
                fetch(0, 10, 1, 5) = LET_IN
                fetch(1, 10, 1, 5) = LET_IN
                pin(0, true) = false
                pin(0, false) = true
                frequencyOf(0) = 1
                worthOf(0) = 100
                endOf(0) = 5
                leaving(0) = 0
                leaving(1) = 1
                """);
        checks.script("promise 4, pin: an entry that was let in is not pinned, whatever the one before was", """
                fetch(0, 10, 1, 5) = LET_IN
                pin(0, true) = false
                fetch(0, 11, 1, 5) = LET_IN
                pin(0, true) = false
                drop(0) = 11
                fetch(0, 11, 1, 5) = LET_IN
                pin(0, true) = false
                pass(5) = 5
                fetch(0, 11, 1, 5) = LET_IN
                pin(0, false) = false
                """);
        checks.script("promise 4, pin: a hit does not unpin", """
                fetch(0, 10, 1, 5) = LET_IN
                pin(0, true) = false
                fetch(0, 10, 1, 5) = HIT
                pin(0, false) = true
                """);
        checks.script("promise 4, pin: refused when the thing never had an entry, in an empty cache", """
                all: pin(#, true) = throws.IllegalStateException
                all: pin(#, false) = throws.IllegalStateException
                """);
        checks.script("promise 4, pin: refused when its entry is gone, in each way", """
                fetch(0, 10, 1, 9) = LET_IN
                drop(0) = 10
                pin(0, true) = throws.IllegalStateException
                fetch(1, 60, 0, 9) = LET_IN
                fetch(2, 60, 1, 9) = LET_IN
                pin(1, true) = throws.IllegalStateException
                fetch(2, 101, 1, 9) = KEPT_OUT
                pin(2, false) = throws.IllegalStateException
                fetch(3, 10, 1, 9) = LET_IN
                pass(9) = 9
                purge() = 1
                pin(3, true) = throws.IllegalStateException
                """);
    }

    private static void drop(Checks checks) {
        checks.script("promise 5, drop: removes the entry and returns its size", """
                fetch(0, 10, 1, 5) = LET_IN
                fetch(31, 20, 1, 5) = LET_IN
                drop(0) = 10
                has(0) = false
                drop(31) = 20
                has(31) = false
                entries() = 0
                used() = 0
                """);
        checks.script("promise 5, drop: the least and the greatest size", """
                setCapacity(1001) = 0
                fetch(0, 1, 1, 5) = LET_IN
                fetch(1, 1000, 1, 5) = LET_IN
                drop(0) = 1
                drop(1) = 1000
                """);
        checks.script("promise 5, drop: the clock stays, and nothing left in the order", """
                fetch(0, 10, 9, 5) = LET_IN
                drop(0) = 10
                clock() = 0
                left() = 0
                """);
        checks.script("promise 5, drop: of a pinned entry", """
                fetch(0, 10, 9, 5) = LET_IN
                pin(0, true) = false
                drop(0) = 10
                has(0) = false
                """);
        checks.script("promise 5, drop: of an entry that is over: it is not counted as that", """
                fetch(0, 10, 9, 5) = LET_IN
                pass(5) = 5
                drop(0) = 10
                has(0) = false
                removedOver() = 0
                """);
        checks.script("promise 5, drop: the other entries stay", """
                fetch(0, 10, 9, 5) = LET_IN
                fetch(1, 20, 9, 5) = LET_IN
                pass(5) = 5
                drop(0) = 10
                has(1) = true
                used() = 20
                """);
        checks.script("promise 5, drop: refused when the thing never had an entry, in an empty cache", """
                all: drop(#) = throws.IllegalStateException
                """);
        checks.script("promise 5, drop: refused when its entry is gone, in each way", """
                fetch(0, 10, 1, 9) = LET_IN
                drop(0) = 10
                drop(0) = throws.IllegalStateException
                fetch(1, 60, 0, 9) = LET_IN
                fetch(2, 60, 1, 9) = LET_IN
                drop(1) = throws.IllegalStateException
                fetch(2, 101, 1, 9) = KEPT_OUT
                drop(2) = throws.IllegalStateException
                fetch(3, 10, 1, 9) = LET_IN
                pass(9) = 9
                purge() = 1
                drop(3) = throws.IllegalStateException
                """);
        checks.script("promise 5, drop: a full cache, each thing in it", """
                setCapacity(32) = 0
                all: fetch(#, 1, 1, 5) = LET_IN
                all: drop(#) = 1
                entries() = 0
                """);
    }

    private static void purge(Checks checks) {
        checks.script("promise 6, purge: of an empty cache", """
                purge() = 0
                removedOver() = 0
                """);
        checks.script("promise 6, purge: not just before the end, but at it", """
                fetch(0, 10, 1, 5) = LET_IN
                pass(4) = 4
                purge() = 0
                has(0) = true
                pass(1) = 5
                purge() = 1
                has(0) = false
                """);
        checks.script("promise 6, purge: behind the end", """
                fetch(0, 10, 1, 5) = LET_IN
                pass(6) = 6
                purge() = 1
                has(0) = false
                """);
        checks.script("promise 6, purge: pinned ones too, but not those that are not over", """
                fetch(0, 10, 1, 5) = LET_IN
                fetch(1, 10, 1, 5) = LET_IN
                fetch(2, 10, 1, 6) = LET_IN
                fetch(3, 10, 1, 6) = LET_IN
                pin(0, true) = false
                pin(2, true) = false
                pass(5) = 5
                purge() = 2
                has(0) = false
                has(1) = false
                has(2) = true
                has(3) = true
                purge() = 0
                """);
        checks.script("promise 6, purge: of a full cache, all of it over", """
                setCapacity(32) = 0
                all: fetch(#, 1, 1, 5) = LET_IN
                pass(5) = 5
                purge() = 32
                entries() = 0
                used() = 0
                removedOver() = 32
                """);
        checks.script("promise 6, purge: clock and left stay", """
                fetch(0, 10, 9, 5) = LET_IN
                pass(5) = 5
                purge() = 1
                clock() = 0
                left() = 0
                """);
    }

    private static void capacityRange(Checks checks) {
        checks.script("promise 7, setCapacity: 1, the least", """
                setCapacity(1) = 0
                capacity() = 1
                """);
        checks.script("promise 7, setCapacity: 10000, the greatest, and as much goes in", """
                setCapacity(10000) = 0
                capacity() = 10000
                all: fetch(#, 312, 1, 9) = LET_IN
                used() = 9984
                fetch(0, 328, 1, 9) = LET_IN
                used() = 10000
                left() = 0
                fetch(0, 329, 1, 9) = LET_IN
                left() = 1
                """);
        checks.script("promise 7, setCapacity: to what it is, above it, and of an empty cache", """
                setCapacity(100) = 0
                setCapacity(101) = 0
                setCapacity(99) = 0
                capacity() = 99
                """);
        checks.script("promise 7, setCapacity: refused outside of its range before anything else", """
                fetch(0, 10, 1, 9) = LET_IN
                pin(0, true) = false
                setCapacity(0) = throws.IllegalArgumentException
                setCapacity(-1) = throws.IllegalArgumentException
                setCapacity(MIN) = throws.IllegalArgumentException
                setCapacity(9) = throws.IllegalStateException
                setCapacity(10001) = throws.IllegalArgumentException
                capacity() = 100
                """);
    }

    private static void capacityLeave(Checks checks) {
        checks.script("promise 7, setCapacity: nothing leaves when the entries just fill it", """
                fetch(0, 10, 1, 9) = LET_IN
                fetch(1, 20, 1, 9) = LET_IN
                setCapacity(30) = 0
                entries() = 2
                left() = 0
                """);
        checks.script("promise 7, setCapacity: one below that the first in the order leaves", """
                fetch(0, 10, 5, 9) = LET_IN
                fetch(1, 20, 5, 9) = LET_IN
                setCapacity(29) = 1
                has(0) = true
                has(1) = false
                left() = 1
                clock() = 250
                capacity() = 29
                """);
        checks.script("promise 7, setCapacity: they leave only as long as they are too great", """
                setCapacity(32) = 0
                all: fetch(#, 1, #, 9) = LET_IN
                setCapacity(32) = 0
                setCapacity(31) = 1
                clock() = 0
                setCapacity(28) = 3
                clock() = 3000
                has(3) = false
                has(4) = true
                used() = 28
                left() = 4
                setCapacity(1) = 27
                has(31) = true
                clock() = 30000
                left() = 31
                removedOver() = 0
                """);
        checks.script("promise 7, setCapacity: all leave when even the last is too great", """
                fetch(0, 10, 5, 9) = LET_IN
                fetch(1, 20, 5, 9) = LET_IN
                setCapacity(1) = 2
                entries() = 0
                clock() = 500
                """);
        checks.script("promise 7, setCapacity: of the same worth the one of the longest ago", """
                fetch(2, 10, 0, 9) = LET_IN
                fetch(1, 10, 0, 9) = LET_IN
                fetch(0, 10, 0, 9) = LET_IN
                fetch(2, 10, 0, 9) = HIT
                setCapacity(20) = 1
                has(1) = false
                setCapacity(10) = 1
                has(0) = false
                has(2) = true
                """);
        checks.script("promise 7, setCapacity: the clock stays if the worth is less", """
                fetch(0, 10, 1, 9) = LET_IN
                pin(0, true) = false
                fetch(1, 90, 90, 9) = LET_IN
                setCapacity(50) = 1
                clock() = 1000
                pin(0, false) = true
                setCapacity(9) = 1
                clock() = 1000
                left() = 2
                """);
        checks.script("promise 7, setCapacity: fetch asks the new capacity", """
                setCapacity(50) = 0
                fetch(0, 51, 1, 9) = KEPT_OUT
                fetch(0, 50, 1, 9) = LET_IN
                setCapacity(101) = 0
                fetch(1, 51, 1, 9) = LET_IN
                has(0) = true
                """);
    }

    private static void capacityOver(Checks checks) {
        checks.script("promise 7, setCapacity: what is over stays when the entries just fill it", """
                fetch(0, 30, 1, 5) = LET_IN
                pass(5) = 5
                setCapacity(30) = 0
                has(0) = true
                removedOver() = 0
                """);
        checks.script("promise 7, setCapacity: one below that all that are over are removed, pinned too", """
                fetch(0, 10, 9, 5) = LET_IN
                fetch(1, 10, 9, 4) = LET_IN
                fetch(2, 10, 0, 6) = LET_IN
                fetch(3, 10, 9, 5) = LET_IN
                pin(3, true) = false
                pass(5) = 5
                setCapacity(39) = 0
                has(0) = false
                has(1) = false
                has(2) = true
                has(3) = false
                removedOver() = 3
                left() = 0
                clock() = 0
                """);
        checks.script("promise 7, setCapacity: where that just is enough, nothing leaves", """
                fetch(0, 30, 9, 5) = LET_IN
                fetch(1, 40, 1, 9) = LET_IN
                pass(5) = 5
                setCapacity(40) = 0
                has(1) = true
                left() = 0
                """);
        checks.script("promise 7, setCapacity: where it is not, others leave, and only they are returned", """
                fetch(0, 30, 9, 5) = LET_IN
                fetch(1, 40, 1, 9) = LET_IN
                pass(5) = 5
                setCapacity(39) = 1
                entries() = 0
                left() = 1
                removedOver() = 1
                clock() = 25
                """);
    }

    private static void capacityPinned(Checks checks) {
        checks.script("promise 7, setCapacity: one that the pinned entries just fill", """
                fetch(0, 30, 0, 9) = LET_IN
                fetch(1, 20, 9, 9) = LET_IN
                fetch(2, 20, 5, 9) = LET_IN
                pin(0, true) = false
                pin(2, true) = false
                setCapacity(50) = 1
                has(0) = true
                has(1) = false
                has(2) = true
                used() = 50
                """);
        checks.script("promise 7, setCapacity: one below that is refused", """
                fetch(0, 30, 0, 9) = LET_IN
                fetch(1, 20, 9, 9) = LET_IN
                fetch(2, 20, 5, 9) = LET_IN
                pin(0, true) = false
                pin(2, true) = false
                setCapacity(49) = throws.IllegalStateException
                setCapacity(1) = throws.IllegalStateException
                capacity() = 100
                entries() = 3
                left() = 0
                clock() = 0
                """);
        checks.script("promise 7, setCapacity: a pinned entry just before its end is counted there", """
                fetch(0, 30, 1, 5) = LET_IN
                pin(0, true) = false
                pass(4) = 4
                setCapacity(29) = throws.IllegalStateException
                setCapacity(30) = 0
                has(0) = true
                """);
        checks.script("promise 7, setCapacity: a pinned entry at its end is not, and is removed", """
                fetch(0, 30, 1, 5) = LET_IN
                pin(0, true) = false
                pass(5) = 5
                setCapacity(29) = 0
                has(0) = false
                removedOver() = 1
                """);
        checks.script("promise 7, setCapacity: refused, it does not remove what is over", """
                fetch(0, 30, 1, 5) = LET_IN
                fetch(1, 30, 1, 9) = LET_IN
                pin(1, true) = false
                pass(5) = 5
                setCapacity(29) = throws.IllegalStateException
                has(0) = true
                removedOver() = 0
                """);
        checks.script("promise 7, setCapacity: a full cache, all of it pinned", """
                setCapacity(32) = 0
                all: fetch(#, 1, 1, 9) = LET_IN
                all: pin(#, true) = false
                setCapacity(31) = throws.IllegalStateException
                setCapacity(32) = 0
                setCapacity(33) = 0
                entries() = 32
                """);
    }

    private static void threshold(Checks checks) {
        checks.script("promise 8, setThreshold: 1, the least, and 1000, the greatest; it returns the one before", """
                setThreshold(1) = 1000
                setThreshold(1000) = 1
                setThreshold(500) = 1000
                setThreshold(500) = 500
                """);
        checks.script("promise 8, setThreshold: fetch asks the new one", """
                setThreshold(20) = 1000
                fetch(0, 21, 1, 9) = KEPT_OUT
                fetch(1, 20, 1, 9) = LET_IN
                setThreshold(21) = 20
                fetch(2, 21, 1, 9) = LET_IN
                fetch(3, 22, 1, 9) = KEPT_OUT
                """);
        checks.script("promise 8, setThreshold: the entries above it stay, over or not", """
                fetch(0, 30, 1, 9) = LET_IN
                fetch(1, 30, 1, 5) = LET_IN
                pass(5) = 5
                setThreshold(1) = 1000
                entries() = 2
                used() = 60
                capacity() = 100
                """);
    }
}
