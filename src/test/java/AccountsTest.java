/** Promises 19 to 30: the accounts, the last of each after as many calls as an object is used for. */
final class AccountsTest {
    static void run(Checks checks) {
        time(checks);
        clock(checks);
        capacity(checks);
        entries(checks);
        used(checks);
        hits(checks);
        misses(checks);
        bytesHit(checks);
        saved(checks);
        paid(checks);
        left(checks);
        removedOverByFetch(checks);
        removedOverByOthers(checks);
    }

    private static void time(Checks checks) {
        checks.script("promise 19, time: 0 at first, and by pass alone", """
                time() = 0
                fetch(0, 10, 1, 9) = LET_IN
                fetch(0, 10, 1, 9) = HIT
                purge() = 0
                setCapacity(50) = 0
                time() = 0
                pass(7) = 7
                time() = 7
                """);
        checks.script("promise 19, time: after 512 calls", """
                511 x pass(10000)
                time() = 5110000
                """);
    }

    private static void clock(Checks checks) {
        checks.script("promise 20, clock: 0 at first, and as long as nothing leaves", """
                clock() = 0
                fetch(0, 10, 9, 9) = LET_IN
                fetch(0, 10, 9, 9) = HIT
                pass(9) = 9
                clock() = 0
                """);
        checks.script("promise 20, clock: by fetch and by setCapacity", """
                fetch(0, 100, 5, 9) = LET_IN
                fetch(1, 100, 5, 9) = LET_IN
                clock() = 50
                setCapacity(99) = 1
                clock() = 100
                """);
        checks.script("promise 20, clock: it stays where the worth of what leaves is less", """
                fetch(0, 10, 1, 9) = LET_IN
                fetch(1, 20, 4, 9) = LET_IN
                pin(0, true) = false
                pin(1, true) = false
                fetch(2, 70, 70, 9) = LET_IN
                setCapacity(99) = 1
                clock() = 1000
                pin(0, false) = true
                pin(1, false) = true
                fetch(3, 70, 70, 9) = LET_IN
                left() = 2
                clock() = 1000
                setCapacity(89) = 1
                left() = 3
                clock() = 1000
                """);
        checks.script("promise 20, clock: neither by drop, nor by purge, nor by what is removed by fetch", """
                fetch(0, 10, 9, 5) = LET_IN
                fetch(1, 10, 9, 9) = LET_IN
                fetch(2, 10, 9, 5) = LET_IN
                drop(1) = 10
                fetch(0, 20, 9, 5) = LET_IN
                pass(5) = 5
                fetch(0, 20, 9, 5) = LET_IN
                purge() = 1
                clock() = 0
                """);
        checks.script("promise 20, clock: after 512 calls", """
                setCapacity(1) = 0
                fetch(0, 1, 1000, 9) = LET_IN
                508 x fetch(0, 1, 1000, 9) = HIT
                fetch(1, 1, 1000, 9) = LET_IN
                clock() = 509000000
                """);
    }

    private static void capacity(Checks checks) {
        checks.script("promise 21, capacity: 100 at first, and by setCapacity alone", """
                capacity() = 100
                fetch(0, 60, 1, 9) = LET_IN
                fetch(1, 60, 1, 9) = LET_IN
                setThreshold(50) = 1000
                pass(9) = 9
                capacity() = 100
                setCapacity(50) = 0
                capacity() = 50
                """);
        checks.script("promise 21, capacity: a refused setCapacity does not change it", """
                fetch(0, 60, 1, 9) = LET_IN
                pin(0, true) = false
                setCapacity(59) = throws.IllegalStateException
                setCapacity(10001) = throws.IllegalArgumentException
                capacity() = 100
                """);
    }

    private static void entries(Checks checks) {
        checks.script("promise 22, entries: none in an empty cache, all in a full one", """
                entries() = 0
                setCapacity(32) = 0
                all: fetch(#, 1, 1, 9) = LET_IN
                entries() = 32
                """);
        checks.script("promise 22, entries: those that are over and those that are pinned included", """
                fetch(0, 10, 1, 5) = LET_IN
                fetch(1, 10, 1, 5) = LET_IN
                fetch(31, 10, 1, 9) = LET_IN
                pin(1, true) = false
                entries() = 3
                pass(5) = 5
                entries() = 3
                drop(31) = 10
                entries() = 2
                purge() = 2
                entries() = 0
                """);
        checks.script("promise 22, entries: one for a thing; not what has left, nor what was kept out", """
                fetch(0, 30, 1, 9) = LET_IN
                fetch(0, 30, 1, 9) = HIT
                fetch(0, 20, 1, 9) = LET_IN
                entries() = 1
                fetch(1, 40, 1, 9) = LET_IN
                fetch(2, 40, 1, 9) = LET_IN
                entries() = 3
                fetch(3, 61, 1, 9) = LET_IN
                entries() = 2
                fetch(4, 101, 1, 9) = KEPT_OUT
                entries() = 2
                fetch(3, 101, 1, 9) = KEPT_OUT
                entries() = 1
                setCapacity(1) = 1
                entries() = 0
                """);
    }

    private static void used(Checks checks) {
        checks.script("promise 23, used: 0 in an empty cache, and the sizes together", """
                used() = 0
                fetch(0, 10, 1, 9) = LET_IN
                fetch(31, 21, 1, 9) = LET_IN
                used() = 31
                fetch(0, 10, 1, 9) = HIT
                used() = 31
                fetch(0, 12, 1, 9) = LET_IN
                used() = 33
                drop(31) = 21
                used() = 12
                """);
        checks.script("promise 23, used: not what has left, nor what was kept out", """
                fetch(0, 20, 1, 9) = LET_IN
                fetch(1, 40, 1, 9) = LET_IN
                fetch(2, 40, 1, 9) = LET_IN
                used() = 100
                fetch(3, 61, 1, 9) = LET_IN
                used() = 81
                fetch(4, 101, 1, 9) = KEPT_OUT
                used() = 81
                fetch(3, 101, 1, 9) = KEPT_OUT
                used() = 20
                setCapacity(19) = 1
                used() = 0
                """);
        checks.script("promise 23, used: of all entries, over or pinned", """
                fetch(0, 10, 1, 5) = LET_IN
                fetch(1, 21, 1, 5) = LET_IN
                pin(1, true) = false
                pass(5) = 5
                used() = 31
                purge() = 2
                used() = 0
                """);
        checks.script("promise 23, used: the greatest, at the greatest capacity", """
                setCapacity(10000) = 0
                10 x fetch(#, 1000, 1, 9) = LET_IN
                used() = 10000
                fetch(10, 1, 1, 9) = LET_IN
                used() = 9001
                """);
    }

    private static void hits(Checks checks) {
        checks.script("promise 24, hits: 0 at first; each hit, and no miss", """
                hits() = 0
                fetch(0, 10, 1, 5) = LET_IN
                fetch(1, 101, 1, 5) = KEPT_OUT
                hits() = 0
                fetch(0, 10, 1, 5) = HIT
                fetch(0, 10, 1, 5) = HIT
                hits() = 2
                fetch(0, 11, 1, 5) = LET_IN
                pass(5) = 5
                fetch(0, 11, 1, 5) = LET_IN
                hits() = 2
                """);
        checks.script("promise 24, hits: no refused fetch of what is in", """
                fetch(0, 10, 7, 5) = LET_IN
                fetch(0, 10, -1, 5) = throws.IllegalArgumentException
                fetch(0, 10, 1001, 5) = throws.IllegalArgumentException
                fetch(0, 10, 7, 0) = throws.IllegalArgumentException
                fetch(0, 10, 7, 10001) = throws.IllegalArgumentException
                hits() = 0
                bytesHit() = 0
                saved() = 0
                paid() = 7
                """);
        checks.script("promise 24, hits: after 512 calls", """
                fetch(0, 10, 1, 5) = LET_IN
                510 x fetch(0, 10, 1, 5) = HIT
                hits() = 510
                """);
    }

    private static void misses(Checks checks) {
        checks.script("promise 25, misses: 0 at first; each miss, let in or not, and no hit", """
                misses() = 0
                fetch(0, 10, 1, 5) = LET_IN
                misses() = 1
                fetch(0, 10, 1, 5) = HIT
                misses() = 1
                fetch(0, 11, 1, 5) = LET_IN
                misses() = 2
                pass(5) = 5
                fetch(0, 11, 1, 5) = LET_IN
                misses() = 3
                """);
        checks.script("promise 25, misses: what is kept out, for each reason", """
                fetch(0, 101, 1, 5) = KEPT_OUT
                misses() = 1
                fetch(1, 60, 1, 5) = LET_IN
                pin(1, true) = false
                fetch(2, 41, 1, 5) = KEPT_OUT
                misses() = 3
                setThreshold(10) = 1000
                fetch(3, 11, 1, 5) = KEPT_OUT
                misses() = 4
                """);
        checks.script("promise 25, misses: no refused fetch", """
                fetch(0, 0, 1, 5) = throws.IllegalArgumentException
                fetch(0, 1, -1, 5) = throws.IllegalArgumentException
                fetch(0, 1, 1, 0) = throws.IllegalArgumentException
                fetch(32, 1, 1, 1) = throws.IndexOutOfBoundsException
                misses() = 0
                """);
        checks.script("promise 25, misses: after 512 calls", """
                511 x fetch(0, 101, 1, 5) = KEPT_OUT
                misses() = 511
                """);
    }

    private static void bytesHit(Checks checks) {
        checks.script("promise 26, bytesHit: 0 at first; the size at each hit, at none else", """
                bytesHit() = 0
                fetch(0, 10, 1, 5) = LET_IN
                fetch(1, 21, 1, 5) = LET_IN
                bytesHit() = 0
                fetch(0, 10, 1, 5) = HIT
                bytesHit() = 10
                fetch(1, 21, 0, 5) = HIT
                fetch(0, 10, 1000, 1) = HIT
                bytesHit() = 41
                fetch(0, 11, 1, 5) = LET_IN
                fetch(2, 101, 1, 5) = KEPT_OUT
                bytesHit() = 41
                """);
        checks.script("promise 26, bytesHit: after 512 calls", """
                setCapacity(1000) = 0
                fetch(0, 1000, 1, 5) = LET_IN
                509 x fetch(0, 1000, 1, 5) = HIT
                bytesHit() = 509000
                """);
    }

    private static void saved(Checks checks) {
        checks.script("promise 27, saved: 0 at first; the price told at each hit, at no miss", """
                saved() = 0
                fetch(0, 10, 7, 5) = LET_IN
                saved() = 0
                fetch(0, 10, 3, 5) = HIT
                saved() = 3
                fetch(0, 10, 0, 5) = HIT
                saved() = 3
                fetch(0, 10, 1000, 5) = HIT
                saved() = 1003
                fetch(0, 11, 9, 5) = LET_IN
                fetch(0, 101, 9, 5) = KEPT_OUT
                saved() = 1003
                """);
        checks.script("promise 27, saved: after 512 calls", """
                fetch(0, 10, 1, 5) = LET_IN
                510 x fetch(0, 10, 1000, 5) = HIT
                saved() = 510000
                """);
    }

    private static void paid(Checks checks) {
        checks.script("promise 28, paid: 0 at first; the price told at each miss, at no hit", """
                paid() = 0
                fetch(0, 10, 7, 5) = LET_IN
                paid() = 7
                fetch(0, 10, 100, 5) = HIT
                paid() = 7
                fetch(0, 11, 20, 5) = LET_IN
                paid() = 27
                pass(5) = 5
                fetch(0, 11, 300, 5) = LET_IN
                paid() = 327
                fetch(1, 10, 0, 5) = LET_IN
                paid() = 327
                """);
        checks.script("promise 28, paid: of what is kept out, for each reason", """
                fetch(0, 101, 1, 5) = KEPT_OUT
                paid() = 1
                fetch(1, 60, 10, 5) = LET_IN
                pin(1, true) = false
                fetch(2, 41, 100, 5) = KEPT_OUT
                paid() = 111
                setThreshold(10) = 1000
                fetch(3, 11, 1000, 5) = KEPT_OUT
                paid() = 1111
                """);
        checks.script("promise 28, paid: after 512 calls", """
                511 x fetch(0, 101, 1000, 5) = KEPT_OUT
                paid() = 511000
                """);
    }

    private static void left(Checks checks) {
        checks.script("promise 29, left: 0 at first; by fetch and by setCapacity", """
                left() = 0
                fetch(0, 50, 1, 9) = LET_IN
                fetch(1, 50, 1, 9) = LET_IN
                left() = 0
                fetch(2, 51, 1, 9) = LET_IN
                left() = 2
                setCapacity(50) = 1
                left() = 3
                """);
        checks.script("promise 29, left: neither what is dropped nor what a fetch of its own removes", """
                fetch(0, 50, 1, 9) = LET_IN
                fetch(1, 50, 1, 9) = LET_IN
                drop(0) = 50
                fetch(1, 49, 1, 9) = LET_IN
                left() = 0
                """);
        checks.script("promise 29, left: nothing that was removed because it was over", """
                fetch(0, 50, 1, 5) = LET_IN
                fetch(1, 50, 1, 6) = LET_IN
                pass(5) = 5
                fetch(2, 50, 1, 2) = LET_IN
                pass(1) = 6
                setCapacity(50) = 0
                pass(1) = 7
                purge() = 1
                left() = 0
                """);
        checks.script("promise 29, left: after 512 calls", """
                511 x fetch(#, 100, 1, 9) = LET_IN
                left() = 510
                """);
    }

    private static void removedOverByFetch(Checks checks) {
        checks.script("promise 30, removedOver: 0 at first, and 0 while what is over stays", """
                removedOver() = 0
                fetch(0, 10, 1, 5) = LET_IN
                pass(5) = 5
                fetch(1, 10, 1, 5) = LET_IN
                removedOver() = 0
                """);
        checks.script("promise 30, removedOver: by fetch, all that are over", """
                fetch(0, 30, 1, 5) = LET_IN
                fetch(1, 30, 1, 5) = LET_IN
                fetch(2, 30, 1, 9) = LET_IN
                pin(1, true) = false
                pass(5) = 5
                fetch(3, 11, 1, 5) = LET_IN
                removedOver() = 2
                """);
        checks.script("promise 30, removedOver: by fetch, though the thing is not let in by step 5", """
                fetch(0, 60, 1, 9) = LET_IN
                fetch(1, 40, 1, 5) = LET_IN
                pin(0, true) = false
                pass(5) = 5
                fetch(2, 41, 1, 5) = KEPT_OUT
                removedOver() = 1
                """);
        checks.script("promise 30, removedOver: the entry of the thing itself, of the size that is told", """
                fetch(0, 10, 1, 5) = LET_IN
                pass(5) = 5
                fetch(0, 10, 1, 5) = LET_IN
                removedOver() = 1
                """);
        checks.script("promise 30, removedOver: the entry of the thing itself, of another size", """
                fetch(0, 10, 1, 5) = LET_IN
                pass(5) = 5
                fetch(0, 11, 1, 5) = LET_IN
                removedOver() = 1
                """);
        checks.script("promise 30, removedOver: the entry of the thing itself, pinned", """
                fetch(0, 10, 1, 5) = LET_IN
                pin(0, true) = false
                pass(6) = 6
                fetch(0, 10, 1, 5) = LET_IN
                removedOver() = 1
                """);
        checks.script("promise 30, removedOver: the entry of the thing itself, that is then kept out", """
                fetch(0, 10, 1, 5) = LET_IN
                pass(5) = 5
                fetch(0, 101, 1, 5) = KEPT_OUT
                removedOver() = 1
                """);
        checks.script("promise 30, removedOver: not the entry of the thing itself just before its end", """
                fetch(0, 10, 1, 5) = LET_IN
                pass(4) = 4
                fetch(0, 11, 1, 5) = LET_IN
                removedOver() = 0
                """);
    }

    private static void removedOverByOthers(Checks checks) {
        checks.script("promise 30, removedOver: after 512 calls", """
                255 x fetch(0, 10, 1, 1) = LET_IN; pass(1)
                fetch(0, 10, 1, 1) = LET_IN
                removedOver() = 255
                """);
        checks.script("promise 30, removedOver: by purge", """
                fetch(0, 10, 1, 5) = LET_IN
                fetch(1, 10, 1, 5) = LET_IN
                pass(5) = 5
                purge() = 2
                removedOver() = 2
                purge() = 0
                removedOver() = 2
                """);
        checks.script("promise 30, removedOver: by setCapacity", """
                fetch(0, 10, 1, 5) = LET_IN
                fetch(1, 10, 1, 5) = LET_IN
                fetch(2, 10, 1, 9) = LET_IN
                pass(5) = 5
                setCapacity(29) = 0
                removedOver() = 2
                """);
        checks.script("promise 30, removedOver: not by drop, nor what leaves", """
                fetch(0, 60, 1, 5) = LET_IN
                fetch(1, 60, 1, 5) = LET_IN
                pass(5) = 5
                drop(1) = 60
                removedOver() = 0
                """);
        checks.script("promise 30, removedOver: of a full cache, three times", """
                setCapacity(32) = 0
                all: fetch(#, 1, 1, 1) = LET_IN
                pass(1) = 1
                all: fetch(#, 1, 1, 1) = LET_IN
                removedOver() = 32
                pass(1) = 2
                purge() = 32
                removedOver() = 64
                all: fetch(#, 1, 1, 1) = LET_IN
                pass(1) = 3
                setCapacity(31) = 0
                removedOver() = 96
                """);
    }
}
