/** Promises 9 to 18: what is asked of the entries. */
final class EntriesTest {
    static void run(Checks checks) {
        has(checks);
        isOver(checks);
        sizeOf(checks);
        frequencyOf(checks);
        worthRounded(checks);
        worthStays(checks);
        endOf(checks);
        leaving(checks);
        orderOfWorth(checks);
        orderOfTheSameWorth(checks);
        placeOf(checks);
        endsFirst(checks);
        wouldLeaveRoom(checks);
        wouldLeaveOrder(checks);
        wouldLeaveOver(checks);
        wouldLeavePinned(checks);
        wouldLeaveAsFetch(checks);
    }

    private static void has(Checks checks) {
        checks.script("promise 9, has: no thing in an empty cache", """
                all: has(#) = false
                """);
        checks.script("promise 9, has: each thing in a full one", """
                setCapacity(32) = 0
                all: fetch(#, 1, 1, 9) = LET_IN
                all: has(#) = true
                """);
        checks.script("promise 9, has: over or not, pinned or not", """
                fetch(0, 10, 1, 5) = LET_IN
                fetch(1, 10, 1, 5) = LET_IN
                pin(1, true) = false
                has(0) = true
                has(1) = true
                pass(5) = 5
                has(0) = true
                has(1) = true
                """);
        checks.script("promise 9, has: not what was kept out, dropped, or has left", """
                fetch(0, 101, 1, 5) = KEPT_OUT
                has(0) = false
                fetch(0, 60, 1, 5) = LET_IN
                fetch(1, 60, 1, 5) = LET_IN
                has(0) = false
                drop(1) = 60
                has(1) = false
                """);
    }

    private static void isOver(Checks checks) {
        checks.script("promise 10, isOver: just before its end, at it and behind it", """
                pass(7) = 7
                fetch(0, 10, 1, 5) = LET_IN
                isOver(0) = false
                pass(4) = 11
                isOver(0) = false
                pass(1) = 12
                isOver(0) = true
                pass(1) = 13
                isOver(0) = true
                """);
        checks.script("promise 10, isOver: pinned, too", """
                fetch(31, 10, 1, 5) = LET_IN
                pin(31, true) = false
                pass(4) = 4
                isOver(31) = false
                pass(1) = 5
                isOver(31) = true
                """);
        checks.script("promise 10, isOver: false in an empty cache", """
                all: isOver(#) = false
                pass(10000) = 10000
                all: isOver(#) = false
                """);
        checks.script("promise 10, isOver: false when the entry that was over is gone", """
                fetch(0, 10, 1, 5) = LET_IN
                fetch(1, 10, 1, 5) = LET_IN
                pass(5) = 5
                drop(0) = 10
                isOver(0) = false
                purge() = 1
                isOver(1) = false
                """);
    }

    private static void sizeOf(Checks checks) {
        checks.script("promise 11, sizeOf: 0 in an empty cache", """
                all: sizeOf(#) = 0
                """);
        checks.script("promise 11, sizeOf: the least and the greatest, over or not, pinned or not", """
                setCapacity(1001) = 0
                fetch(0, 1, 1, 5) = LET_IN
                fetch(31, 1000, 1, 5) = LET_IN
                sizeOf(0) = 1
                sizeOf(31) = 1000
                pin(0, true) = false
                sizeOf(0) = 1
                sizeOf(31) = 1000
                pass(5) = 5
                sizeOf(0) = 1
                sizeOf(31) = 1000
                """);
        checks.script("promise 11, sizeOf: of the entry that the thing has now, and a hit leaves it", """
                fetch(0, 60, 1, 5) = LET_IN
                fetch(0, 30, 1, 5) = LET_IN
                sizeOf(0) = 30
                fetch(0, 30, 1, 5) = HIT
                sizeOf(0) = 30
                """);
        checks.script("promise 11, sizeOf: 0 when the entry is gone", """
                fetch(0, 60, 1, 5) = LET_IN
                fetch(1, 60, 1, 5) = LET_IN
                sizeOf(0) = 0
                drop(1) = 60
                sizeOf(1) = 0
                fetch(2, 101, 1, 5) = KEPT_OUT
                sizeOf(2) = 0
                """);
    }

    private static void frequencyOf(Checks checks) {
        checks.script("promise 12, frequencyOf: 0 in an empty cache", """
                all: frequencyOf(#) = 0
                """);
        checks.script("promise 12, frequencyOf: 1 when let in, then one more for each hit, over or not", """
                fetch(31, 10, 1, 5) = LET_IN
                frequencyOf(31) = 1
                fetch(31, 10, 1, 5) = HIT
                frequencyOf(31) = 2
                pass(5) = 5
                frequencyOf(31) = 2
                """);
        checks.script("promise 12, frequencyOf: pinned or not", """
                fetch(0, 10, 1, 5) = LET_IN
                pin(0, true) = false
                frequencyOf(0) = 1
                fetch(0, 10, 1, 5) = HIT
                frequencyOf(0) = 2
                pin(0, false) = true
                frequencyOf(0) = 2
                """);
        checks.script("promise 12, frequencyOf: after as many calls as an object is used for", """
                fetch(0, 10, 1, 5) = LET_IN
                510 x fetch(0, 10, 1, 5) = HIT
                frequencyOf(0) = 511
                """);
        checks.script("promise 12, frequencyOf: 0 when the entry is gone, 1 when it is let in again", """
                fetch(0, 10, 1, 5) = LET_IN
                fetch(0, 10, 1, 5) = HIT
                drop(0) = 10
                frequencyOf(0) = 0
                fetch(0, 10, 1, 5) = LET_IN
                frequencyOf(0) = 1
                """);
    }

    private static void worthRounded(Checks checks) {
        checks.script("promise 13, worthOf: rounded down: just above and just below a whole number", """
                setCapacity(10000) = 0
                fetch(0, 999, 1, 9) = LET_IN
                worthOf(0) = 1
                fetch(1, 1000, 1, 9) = LET_IN
                worthOf(1) = 1
                fetch(2, 501, 1, 9) = LET_IN
                worthOf(2) = 1
                fetch(3, 500, 1, 9) = LET_IN
                worthOf(3) = 2
                fetch(4, 999, 999, 9) = LET_IN
                worthOf(4) = 1000
                fetch(5, 998, 997, 9) = LET_IN
                worthOf(5) = 998
                """);
        checks.script("promise 13, worthOf: the whole quotient is rounded, not a part of it", """
                fetch(0, 7, 1, 9) = LET_IN
                worthOf(0) = 142
                fetch(0, 7, 1, 9) = HIT
                worthOf(0) = 285
                fetch(0, 7, 1, 9) = HIT
                worthOf(0) = 428
                fetch(0, 7, 3, 9) = HIT
                worthOf(0) = 1714
                """);
        checks.script("promise 13, worthOf: above a clock, too", """
                fetch(0, 30, 2, 9) = LET_IN
                fetch(1, 90, 1, 9) = LET_IN
                clock() = 66
                worthOf(1) = 77
                fetch(1, 90, 1, 9) = HIT
                worthOf(1) = 88
                """);
        checks.script("promise 13, worthOf: of a price of 0 it is the clock", """
                fetch(0, 10, 0, 9) = LET_IN
                worthOf(0) = 0
                fetch(1, 95, 5, 9) = LET_IN
                fetch(2, 95, 0, 9) = LET_IN
                clock() = 52
                worthOf(2) = 52
                fetch(2, 95, 0, 9) = HIT
                worthOf(2) = 52
                """);
        checks.script("promise 13, worthOf: the greatest of one fetch: size 1, price 1000", """
                fetch(0, 1, 1000, 9) = LET_IN
                worthOf(0) = 1000000
                """);
        checks.script("promise 13, worthOf: after as many calls as an object is used for", """
                fetch(0, 1, 1000, 9) = LET_IN
                510 x fetch(0, 1, 1000, 9) = HIT
                worthOf(0) = 511000000
                """);
    }

    private static void worthStays(Checks checks) {
        checks.script("promise 13, worthOf: it stays until the next hit, whatever the clock is", """
                fetch(0, 40, 2, 20) = LET_IN
                fetch(1, 60, 9, 20) = LET_IN
                fetch(2, 40, 9, 20) = LET_IN
                clock() = 50
                worthOf(1) = 150
                worthOf(2) = 275
                pin(1, true) = false
                pass(20) = 20
                worthOf(1) = 150
                """);
        checks.script("promise 13, worthOf: it stays though the clock goes above it, until the next hit", """
                fetch(0, 10, 1, 9) = LET_IN
                pin(0, true) = false
                fetch(1, 90, 90, 9) = LET_IN
                fetch(2, 90, 0, 9) = LET_IN
                clock() = 1000
                worthOf(0) = 100
                fetch(0, 10, 1, 9) = HIT
                worthOf(0) = 1200
                """);
        checks.script("promise 13, worthOf: NONE in an empty cache", """
                all: worthOf(#) = NONE
                """);
        checks.script("promise 13, worthOf: NONE when the entry is gone", """
                fetch(0, 60, 1, 5) = LET_IN
                fetch(1, 60, 1, 5) = LET_IN
                worthOf(0) = NONE
                drop(1) = 60
                worthOf(1) = NONE
                fetch(2, 101, 1, 5) = KEPT_OUT
                worthOf(2) = NONE
                """);
    }

    private static void endOf(Checks checks) {
        checks.script("promise 14, endOf: NONE in an empty cache", """
                all: endOf(#) = NONE
                """);
        checks.script("promise 14, endOf: the time and the lifetime, over or not", """
                pass(10000) = 10000
                fetch(0, 10, 1, 1) = LET_IN
                fetch(31, 10, 1, 10000) = LET_IN
                endOf(0) = 10001
                endOf(31) = 20000
                pass(10000) = 20000
                endOf(0) = 10001
                endOf(31) = 20000
                """);
        checks.script("promise 14, endOf: at a hit the end stays, at a miss it is set", """
                fetch(0, 10, 1, 20) = LET_IN
                pass(3) = 3
                fetch(0, 10, 1, 30) = HIT
                fetch(0, 10, 1, 1) = HIT
                endOf(0) = 20
                fetch(0, 11, 1, 30) = LET_IN
                endOf(0) = 33
                """);
        checks.script("promise 14, endOf: pinned or not", """
                fetch(0, 10, 1, 5) = LET_IN
                pin(0, true) = false
                endOf(0) = 5
                pass(5) = 5
                endOf(0) = 5
                """);
        checks.script("promise 14, endOf: after as many calls as an object is used for", """
                510 x pass(10000)
                fetch(0, 10, 1, 10000) = LET_IN
                endOf(0) = 5110000
                """);
        checks.script("promise 14, endOf: NONE when the entry is gone", """
                fetch(0, 60, 1, 5) = LET_IN
                fetch(1, 60, 1, 5) = LET_IN
                endOf(0) = NONE
                pass(5) = 5
                purge() = 1
                endOf(1) = NONE
                """);
    }

    private static void leaving(Checks checks) {
        checks.script("promise 15, leaving: place 0 is the first, and as many places as entries, in a full cache", """
                setCapacity(32) = 0
                all: fetch(#, 1, #, 9) = LET_IN
                all: leaving(#) = #
                leaving(32) = throws.IndexOutOfBoundsException
                """);
        checks.script("promise 15, leaving: no place in an empty cache", """
                all: leaving(#) = throws.IndexOutOfBoundsException
                """);
        checks.script("promise 15, leaving: the last place, and the one behind it", """
                fetch(5, 10, 1, 9) = LET_IN
                leaving(0) = 5
                leaving(1) = throws.IndexOutOfBoundsException
                fetch(3, 10, 0, 9) = LET_IN
                leaving(0) = 3
                leaving(1) = 5
                leaving(2) = throws.IndexOutOfBoundsException
                """);
        checks.script("promise 15, leaving: pinned entries are not in the order", """
                fetch(0, 10, 0, 9) = LET_IN
                fetch(1, 10, 1, 9) = LET_IN
                fetch(2, 10, 2, 9) = LET_IN
                pin(1, true) = false
                leaving(0) = 0
                leaving(1) = 2
                leaving(2) = throws.IndexOutOfBoundsException
                pin(0, true) = false
                leaving(0) = 2
                leaving(1) = throws.IndexOutOfBoundsException
                pin(2, true) = false
                leaving(0) = throws.IndexOutOfBoundsException
                pin(1, false) = true
                leaving(0) = 1
                """);
        checks.script("promise 15, leaving: entries that are over are in the order, as before", """
                fetch(0, 10, 2, 5) = LET_IN
                fetch(1, 10, 1, 9) = LET_IN
                fetch(2, 10, 0, 5) = LET_IN
                pass(5) = 5
                leaving(0) = 2
                leaving(1) = 1
                leaving(2) = 0
                """);
        checks.script("promise 15, leaving: by it entries leave", """
                setCapacity(50) = 0
                fetch(0, 10, 3, 9) = LET_IN
                fetch(1, 10, 1, 9) = LET_IN
                fetch(2, 10, 2, 9) = LET_IN
                leaving(0) = 1
                leaving(1) = 2
                setCapacity(20) = 1
                has(1) = false
                setCapacity(10) = 1
                has(2) = false
                """);
    }

    private static void orderOfWorth(Checks checks) {
        checks.script("promise 15, leaving: the least worth comes first", """
                fetch(0, 1, 2, 9) = LET_IN
                fetch(1, 10, 20, 9) = LET_IN
                fetch(2, 13, 26, 9) = LET_IN
                fetch(3, 30, 59, 9) = LET_IN
                worthOf(2) = 2000
                worthOf(3) = 1966
                leaving(0) = 3
                leaving(1) = 0
                leaving(2) = 1
                leaving(3) = 2
                """);
        checks.script("promise 15, leaving: a hit moves an entry by its new worth, up or down", """
                fetch(0, 10, 1, 9) = LET_IN
                fetch(1, 10, 2, 9) = LET_IN
                fetch(2, 10, 3, 9) = LET_IN
                fetch(0, 10, 2, 9) = HIT
                leaving(0) = 1
                leaving(1) = 2
                leaving(2) = 0
                fetch(2, 10, 0, 9) = HIT
                leaving(0) = 2
                leaving(1) = 1
                leaving(2) = 0
                """);
        checks.script("promise 15, leaving: the clock in a worth counts", """
                fetch(0, 40, 4, 9) = LET_IN
                fetch(1, 60, 9, 9) = LET_IN
                fetch(2, 40, 4, 9) = LET_IN
                worthOf(1) = 150
                worthOf(2) = 200
                leaving(0) = 1
                leaving(1) = 2
                """);
        checks.script("promise 15, leaving: a worth that differs by 1 alone", """
                setCapacity(3000) = 0
                fetch(0, 500, 1, 9) = LET_IN
                fetch(1, 1000, 1, 9) = LET_IN
                fetch(2, 334, 1, 9) = LET_IN
                leaving(0) = 1
                leaving(1) = 0
                leaving(2) = 2
                """);
    }

    private static void orderOfTheSameWorth(Checks checks) {
        checks.script("promise 15, leaving: of the same worth the one let in the longest ago, at one time", """
                fetch(9, 10, 0, 9) = LET_IN
                fetch(3, 20, 0, 5) = LET_IN
                fetch(31, 30, 0, 9) = LET_IN
                fetch(0, 40, 0, 9) = LET_IN
                leaving(0) = 9
                leaving(1) = 3
                leaving(2) = 31
                leaving(3) = 0
                """);
        checks.script("promise 15, leaving: of the same worth, of other sizes, prices and frequencies", """
                fetch(5, 20, 1, 9) = LET_IN
                fetch(4, 10, 1, 9) = LET_IN
                fetch(3, 30, 3, 9) = LET_IN
                fetch(5, 20, 1, 9) = HIT
                worthOf(5) = 100
                leaving(0) = 4
                leaving(1) = 3
                leaving(2) = 5
                """);
        checks.script("promise 15, leaving: of the same worth, though the first has the greatest frequency", """
                fetch(5, 20, 1, 9) = LET_IN
                fetch(5, 20, 1, 9) = HIT
                fetch(4, 10, 1, 9) = LET_IN
                fetch(3, 30, 3, 9) = LET_IN
                worthOf(5) = 100
                leaving(0) = 5
                leaving(1) = 4
                leaving(2) = 3
                """);
        checks.script("promise 15, leaving: of the same worth the one hit the longest ago", """
                fetch(0, 10, 0, 9) = LET_IN
                fetch(1, 10, 0, 9) = LET_IN
                fetch(2, 10, 0, 9) = LET_IN
                fetch(0, 10, 0, 9) = HIT
                fetch(1, 10, 0, 9) = HIT
                leaving(0) = 2
                leaving(1) = 0
                leaving(2) = 1
                pass(1) = 1
                fetch(2, 10, 0, 9) = HIT
                leaving(0) = 0
                leaving(1) = 1
                leaving(2) = 2
                """);
        checks.script("promise 15, leaving: of the same worth by an older clock and a newer", """
                fetch(0, 10, 1, 9) = LET_IN
                fetch(1, 90, 9, 9) = LET_IN
                leaving(0) = 0
                leaving(1) = 1
                pin(0, true) = false
                fetch(2, 90, 0, 9) = LET_IN
                worthOf(2) = 100
                pin(0, false) = true
                leaving(0) = 0
                leaving(1) = 2
                """);
        checks.script("promise 15, leaving: neither pin, pass nor another's removal is a use", """
                fetch(0, 10, 0, 9) = LET_IN
                fetch(1, 10, 0, 9) = LET_IN
                fetch(2, 10, 0, 9) = LET_IN
                pin(0, true) = false
                pass(1) = 1
                pin(0, false) = true
                drop(2) = 10
                leaving(0) = 0
                leaving(1) = 1
                """);
    }

    private static void placeOf(Checks checks) {
        checks.script("promise 16, placeOf: NONE in an empty cache", """
                all: placeOf(#) = NONE
                """);
        checks.script("promise 16, placeOf: the places of a full cache", """
                setCapacity(32) = 0
                all: fetch(#, 1, #, 9) = LET_IN
                all: placeOf(#) = #
                """);
        checks.script("promise 16, placeOf: NONE when pinned, and the others are one place before", """
                fetch(0, 10, 0, 9) = LET_IN
                fetch(1, 10, 1, 9) = LET_IN
                fetch(2, 10, 2, 9) = LET_IN
                pin(1, true) = false
                placeOf(0) = 0
                placeOf(1) = NONE
                placeOf(2) = 1
                pin(1, false) = true
                placeOf(1) = 1
                placeOf(2) = 2
                """);
        checks.script("promise 16, placeOf: NONE when the entry is gone", """
                fetch(0, 60, 1, 9) = LET_IN
                fetch(1, 60, 1, 9) = LET_IN
                placeOf(0) = NONE
                placeOf(1) = 0
                drop(1) = 60
                placeOf(1) = NONE
                """);
        checks.script("promise 16, placeOf: of entries that are over, too", """
                fetch(0, 10, 1, 9) = LET_IN
                fetch(1, 10, 0, 5) = LET_IN
                pass(5) = 5
                placeOf(0) = 1
                placeOf(1) = 0
                """);
        checks.script("promise 16, placeOf: of the same worth, and after a hit", """
                fetch(9, 10, 0, 9) = LET_IN
                fetch(3, 20, 0, 9) = LET_IN
                fetch(5, 20, 0, 9) = LET_IN
                placeOf(9) = 0
                placeOf(3) = 1
                placeOf(5) = 2
                fetch(9, 10, 0, 9) = HIT
                placeOf(9) = 2
                placeOf(3) = 0
                placeOf(5) = 1
                """);
    }

    private static void endsFirst(Checks checks) {
        checks.script("promise 17, endsFirst: NONE in an empty cache", """
                endsFirst() = NONE
                fetch(0, 10, 1, 9) = LET_IN
                drop(0) = 10
                endsFirst() = NONE
                """);
        checks.script("promise 17, endsFirst: the one that ends first, by one", """
                fetch(1, 10, 1, 10) = LET_IN
                endsFirst() = 1
                fetch(2, 10, 1, 9) = LET_IN
                endsFirst() = 2
                fetch(0, 10, 1, 10) = LET_IN
                endsFirst() = 2
                """);
        checks.script("promise 17, endsFirst: of several the lowest", """
                fetch(31, 10, 1, 9) = LET_IN
                endsFirst() = 31
                fetch(20, 10, 1, 9) = LET_IN
                endsFirst() = 20
                fetch(21, 10, 1, 9) = LET_IN
                endsFirst() = 20
                pass(4) = 4
                fetch(0, 10, 1, 5) = LET_IN
                endsFirst() = 0
                """);
        checks.script("promise 17, endsFirst: of a full cache", """
                setCapacity(32) = 0
                all: fetch(#, 1, 1, 9) = LET_IN
                endsFirst() = 0
                drop(0) = 1
                endsFirst() = 1
                drop(31) = 1
                fetch(31, 1, 1, 8) = LET_IN
                endsFirst() = 31
                """);
        checks.script("promise 17, endsFirst: a hit does not move the end", """
                fetch(0, 10, 1, 8) = LET_IN
                fetch(1, 10, 1, 9) = LET_IN
                fetch(0, 10, 1, 100) = HIT
                endsFirst() = 0
                fetch(1, 10, 1, 1) = HIT
                endsFirst() = 0
                fetch(0, 11, 1, 10) = LET_IN
                endsFirst() = 1
                """);
        checks.script("promise 17, endsFirst: over or not, pinned or not", """
                fetch(0, 10, 1, 9) = LET_IN
                fetch(1, 10, 1, 5) = LET_IN
                fetch(2, 10, 1, 4) = LET_IN
                pin(2, true) = false
                endsFirst() = 2
                pass(5) = 5
                endsFirst() = 2
                drop(2) = 10
                endsFirst() = 1
                purge() = 1
                endsFirst() = 0
                """);
    }

    private static void wouldLeaveRoom(Checks checks) {
        checks.script("promise 18, wouldLeave: size 1, the least, and 1000, the greatest", """
                setCapacity(1000) = 0
                wouldLeave(1) = 0
                wouldLeave(1000) = 0
                fetch(0, 1, 1, 9) = LET_IN
                wouldLeave(999) = 0
                wouldLeave(1000) = 1
                """);
        checks.script("promise 18, wouldLeave: NONE if the size is above the capacity, not at it", """
                wouldLeave(100) = 0
                wouldLeave(101) = NONE
                wouldLeave(1000) = NONE
                setCapacity(999) = 0
                wouldLeave(999) = 0
                wouldLeave(1000) = NONE
                setCapacity(1) = 0
                wouldLeave(1) = 0
                wouldLeave(2) = NONE
                """);
        checks.script("promise 18, wouldLeave: as long as there is not enough room, in a full cache", """
                setCapacity(32) = 0
                all: fetch(#, 1, #, 9) = LET_IN
                wouldLeave(1) = 1
                wouldLeave(2) = 2
                wouldLeave(31) = 31
                wouldLeave(32) = 32
                wouldLeave(33) = NONE
                """);
        checks.script("promise 18, wouldLeave: none where the sizes, added, are at the capacity", """
                fetch(0, 60, 1, 9) = LET_IN
                fetch(1, 30, 0, 9) = LET_IN
                wouldLeave(10) = 0
                wouldLeave(11) = 1
                wouldLeave(40) = 1
                wouldLeave(41) = 2
                wouldLeave(100) = 2
                """);
    }

    private static void wouldLeaveOrder(Checks checks) {
        checks.script("promise 18, wouldLeave: counted in the order of leaving, by the worth", """
                fetch(0, 30, 9, 9) = LET_IN
                fetch(1, 50, 5, 9) = LET_IN
                fetch(2, 20, 1, 9) = LET_IN
                wouldLeave(20) = 1
                wouldLeave(21) = 2
                wouldLeave(70) = 2
                wouldLeave(71) = 3
                """);
        checks.script("promise 18, wouldLeave: of the same worth the longest ago first, also after a hit", """
                fetch(0, 50, 0, 9) = LET_IN
                fetch(1, 30, 0, 9) = LET_IN
                fetch(2, 20, 0, 9) = LET_IN
                wouldLeave(50) = 1
                wouldLeave(51) = 2
                wouldLeave(81) = 3
                fetch(0, 50, 0, 9) = HIT
                wouldLeave(30) = 1
                wouldLeave(31) = 2
                wouldLeave(51) = 3
                """);
    }

    private static void wouldLeaveOver(Checks checks) {
        checks.script("promise 18, wouldLeave: what is over makes room by step 4, and is not counted", """
                fetch(0, 40, 0, 5) = LET_IN
                fetch(1, 30, 1, 9) = LET_IN
                fetch(2, 30, 2, 9) = LET_IN
                pass(4) = 4
                wouldLeave(1) = 1
                wouldLeave(40) = 1
                wouldLeave(41) = 2
                wouldLeave(71) = 3
                pass(1) = 5
                wouldLeave(1) = 0
                wouldLeave(40) = 0
                wouldLeave(41) = 1
                wouldLeave(70) = 1
                wouldLeave(71) = 2
                wouldLeave(100) = 2
                """);
        checks.script("promise 18, wouldLeave: what is over behind others in the order makes room first, too", """
                fetch(0, 40, 0, 9) = LET_IN
                fetch(1, 30, 9, 5) = LET_IN
                fetch(2, 30, 5, 9) = LET_IN
                pass(5) = 5
                wouldLeave(30) = 0
                wouldLeave(31) = 1
                wouldLeave(70) = 1
                wouldLeave(71) = 2
                """);
        checks.script("promise 18, wouldLeave: of a cache that is over as a whole", """
                setCapacity(32) = 0
                all: fetch(#, 1, 1, 5) = LET_IN
                pin(9, true) = false
                pass(5) = 5
                wouldLeave(1) = 0
                wouldLeave(32) = 0
                wouldLeave(33) = NONE
                pass(1) = 6
                wouldLeave(32) = 0
                """);
    }

    private static void wouldLeavePinned(Checks checks) {
        checks.script("promise 18, wouldLeave: NONE one above what the pinned entries leave room for", """
                fetch(0, 60, 0, 9) = LET_IN
                fetch(1, 20, 0, 9) = LET_IN
                fetch(2, 20, 0, 9) = LET_IN
                pin(0, true) = false
                wouldLeave(40) = 2
                wouldLeave(41) = NONE
                pin(1, true) = false
                wouldLeave(20) = 1
                wouldLeave(21) = NONE
                pin(2, true) = false
                wouldLeave(1) = NONE
                """);
        checks.script("promise 18, wouldLeave: a pinned entry just before its end stands in the way, at it not", """
                fetch(0, 60, 0, 5) = LET_IN
                fetch(1, 40, 0, 9) = LET_IN
                pin(0, true) = false
                pass(4) = 4
                wouldLeave(40) = 1
                wouldLeave(41) = NONE
                pass(1) = 5
                wouldLeave(60) = 0
                wouldLeave(61) = 1
                wouldLeave(100) = 1
                """);
        checks.script("promise 18, wouldLeave: a pinned entry is not in the order", """
                fetch(0, 50, 0, 9) = LET_IN
                fetch(1, 25, 9, 9) = LET_IN
                fetch(2, 25, 9, 9) = LET_IN
                pin(0, true) = false
                wouldLeave(25) = 1
                wouldLeave(26) = 2
                """);
    }

    private static void wouldLeaveAsFetch(Checks checks) {
        checks.script("promise 18, wouldLeave: it asks nothing of the threshold, as steps 4 and 5 do not", """
                setThreshold(1) = 1000
                wouldLeave(50) = 0
                fetch(0, 50, 1, 9) = KEPT_OUT
                wouldLeave(100) = 0
                """);
        checks.script("promise 18, wouldLeave: it changes nothing, and a fetch does what it told", """
                fetch(0, 50, 1, 5) = LET_IN
                fetch(1, 30, 1, 9) = LET_IN
                fetch(2, 20, 2, 9) = LET_IN
                pass(5) = 5
                wouldLeave(51) = 1
                entries() = 3
                used() = 100
                clock() = 0
                left() = 0
                removedOver() = 0
                misses() = 3
                leaving(0) = 0
                fetch(3, 51, 1, 9) = LET_IN
                left() = 1
                removedOver() = 1
                has(1) = false
                """);
    }
}
