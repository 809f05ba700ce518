/** Promise 2, fetch: its ranges, and its six steps as 'Terms' tell them. */
final class FetchTest {
    static void run(Checks checks) {
        ranges(checks);
        hitOrMiss(checks);
        whatAHitSets(checks);
        ownEntryGoes(checks);
        capacity(checks);
        threshold(checks);
        lastMiss(checks);
        stepThreeRemovesNothing(checks);
        overGoes(checks);
        pinnedStay(checks);
        leave(checks);
        clock(checks);
        letIn(checks);
    }

    private static void ranges(Checks checks) {
        checks.script("promise 2: thing 0, the first", """
                fetch(0, 10, 1, 9) = LET_IN
                has(0) = true
                """);
        checks.script("promise 2: thing 31, the last", """
                fetch(31, 10, 1, 9) = LET_IN
                has(31) = true
                """);
        checks.script("promise 2: size 1, the least", """
                fetch(0, 1, 5, 9) = LET_IN
                sizeOf(0) = 1
                worthOf(0) = 5000
                """);
        checks.script("promise 2: size 1000, the greatest", """
                setCapacity(1000) = 0
                fetch(0, 1000, 5, 9) = LET_IN
                sizeOf(0) = 1000
                worthOf(0) = 5
                """);
        checks.script("promise 2: price 0, the least", """
                fetch(0, 10, 0, 9) = LET_IN
                fetch(0, 10, 0, 9) = HIT
                worthOf(0) = 0
                paid() = 0
                saved() = 0
                """);
        checks.script("promise 2: price 1000, the greatest", """
                fetch(0, 10, 1000, 9) = LET_IN
                worthOf(0) = 100000
                fetch(0, 10, 1000, 9) = HIT
                worthOf(0) = 200000
                paid() = 1000
                saved() = 1000
                """);
        checks.script("promise 2: lifetime 1, the least", """
                fetch(0, 10, 1, 1) = LET_IN
                isOver(0) = false
                pass(1) = 1
                isOver(0) = true
                """);
        checks.script("promise 2: lifetime 10000, the greatest", """
                fetch(0, 10, 1, 10000) = LET_IN
                pass(9999) = 9999
                isOver(0) = false
                pass(1) = 10000
                isOver(0) = true
                """);
        checks.script("promise 2: it returns HIT, LET_IN or KEPT_OUT: 0, 1 or 2", """
                fetch(0, 10, 1, 9) = 1
                fetch(0, 10, 1, 9) = 0
                fetch(0, 101, 1, 9) = 2
                """);
    }

    private static void hitOrMiss(Checks checks) {
        checks.script("promise 2, step 1: no hit without an entry for the thing itself", """
                fetch(0, 10, 1, 9) = LET_IN
                fetch(1, 10, 1, 9) = LET_IN
                hits() = 0
                misses() = 2
                """);
        checks.script("promise 2, step 1: no hit when the entry was dropped", """
                fetch(0, 10, 1, 9) = LET_IN
                drop(0) = 10
                fetch(0, 10, 1, 9) = LET_IN
                """);
        checks.script("promise 2, step 1: no hit when the entry left", """
                fetch(0, 60, 1, 9) = LET_IN
                fetch(1, 60, 1, 9) = LET_IN
                fetch(0, 60, 1, 9) = LET_IN
                """);
        checks.script("promise 2, step 1: just before its end an entry is hit", """
                pass(3) = 3
                fetch(0, 10, 1, 5) = LET_IN
                pass(4) = 7
                fetch(0, 10, 1, 5) = HIT
                """);
        checks.script("promise 2, step 1: at its end it is not hit", """
                pass(3) = 3
                fetch(0, 10, 1, 5) = LET_IN
                pass(5) = 8
                fetch(0, 10, 1, 5) = LET_IN
                endOf(0) = 13
                """);
        checks.script("promise 2, step 1: behind its end it is not hit", """
                pass(3) = 3
                fetch(0, 10, 1, 5) = LET_IN
                pass(6) = 9
                fetch(0, 10, 1, 5) = LET_IN
                endOf(0) = 14
                """);
        checks.script("promise 2, step 1: a size one above the entry's is no hit", """
                fetch(0, 10, 1, 5) = LET_IN
                fetch(0, 11, 1, 5) = LET_IN
                sizeOf(0) = 11
                """);
        checks.script("promise 2, step 1: a size one below the entry's is no hit", """
                fetch(0, 10, 1, 5) = LET_IN
                fetch(0, 9, 1, 5) = LET_IN
                sizeOf(0) = 9
                """);
        checks.script("promise 2, step 1: a hit is asked nothing of the threshold", """
                fetch(0, 10, 1, 1000) = LET_IN
                pass(51) = 51
                setThreshold(1) = 1000
                fetch(0, 10, 1, 5) = HIT
                """);
        checks.script("promise 2, step 1: all things in and no room left: each is hit", """
                setCapacity(32) = 0
                all: fetch(#, 1, 1, 9) = LET_IN
                used() = 32
                all: fetch(#, 1, 1, 9) = HIT
                entries() = 32
                left() = 0
                """);
    }

    private static void whatAHitSets(Checks checks) {
        checks.script("promise 2, step 1: the frequency grows by 1", """
                fetch(0, 10, 5, 50) = LET_IN
                fetch(0, 10, 5, 50) = HIT
                frequencyOf(0) = 2
                fetch(0, 10, 5, 50) = HIT
                frequencyOf(0) = 3
                """);
        checks.script("promise 2, step 1: the price becomes the one that is told, greater", """
                fetch(0, 10, 5, 50) = LET_IN
                fetch(0, 10, 7, 50) = HIT
                worthOf(0) = 1400
                """);
        checks.script("promise 2, step 1: the price becomes the one that is told, less", """
                fetch(0, 10, 5, 50) = LET_IN
                fetch(0, 10, 1, 50) = HIT
                worthOf(0) = 200
                fetch(0, 10, 0, 50) = HIT
                worthOf(0) = 0
                """);
        checks.script("promise 2, step 1: the worth is set from the clock of now", """
                fetch(0, 40, 2, 20) = LET_IN
                fetch(1, 60, 9, 20) = LET_IN
                fetch(2, 40, 9, 20) = LET_IN
                clock() = 50
                worthOf(1) = 150
                fetch(1, 60, 9, 20) = HIT
                worthOf(1) = 350
                """);
        checks.script("promise 2, step 1: the end stays, whatever lifetime is told", """
                fetch(0, 10, 1, 20) = LET_IN
                pass(3) = 3
                fetch(0, 10, 1, 10000) = HIT
                endOf(0) = 20
                fetch(0, 10, 1, 1) = HIT
                endOf(0) = 20
                """);
        checks.script("promise 2, step 1: a pinned entry is hit, and stays pinned", """
                fetch(0, 10, 1, 5) = LET_IN
                pin(0, true) = false
                fetch(0, 10, 1, 5) = HIT
                frequencyOf(0) = 2
                worthOf(0) = 200
                pin(0, true) = true
                """);
        checks.script("promise 2, step 1: by a hit the other entries stay as they are, over or not", """
                fetch(0, 50, 1, 9) = LET_IN
                fetch(1, 30, 1, 3) = LET_IN
                fetch(2, 20, 1, 9) = LET_IN
                pass(3) = 3
                fetch(0, 50, 1, 9) = HIT
                has(1) = true
                isOver(1) = true
                frequencyOf(2) = 1
                worthOf(2) = 50
                left() = 0
                removedOver() = 0
                clock() = 0
                """);
    }

    private static void ownEntryGoes(Checks checks) {
        checks.script("promise 2, step 2: the entry of another size is removed", """
                fetch(0, 60, 1, 9) = LET_IN
                fetch(0, 30, 1, 9) = LET_IN
                entries() = 1
                used() = 30
                """);
        checks.script("promise 2, step 2: the entry that is over is removed", """
                fetch(0, 60, 1, 9) = LET_IN
                pass(9) = 9
                fetch(0, 60, 1, 9) = LET_IN
                entries() = 1
                used() = 60
                endOf(0) = 18
                """);
        checks.script("promise 2, step 2: a pinned entry is removed, and its room is free", """
                fetch(0, 100, 1, 9) = LET_IN
                pin(0, true) = false
                fetch(0, 99, 1, 9) = LET_IN
                sizeOf(0) = 99
                pin(0, false) = false
                """);
        checks.script("promise 2, step 2: an entry that is pinned and over is removed", """
                fetch(0, 100, 1, 9) = LET_IN
                pin(0, true) = false
                pass(9) = 9
                fetch(0, 100, 1, 9) = LET_IN
                isOver(0) = false
                pin(0, false) = false
                """);
        checks.script("promise 2, step 2: removed though the size told is above the capacity", """
                fetch(0, 60, 1, 9) = LET_IN
                fetch(0, 101, 1, 9) = KEPT_OUT
                has(0) = false
                entries() = 0
                used() = 0
                """);
        checks.script("promise 2, step 2: removed though the size told is above the threshold", """
                setThreshold(50) = 1000
                fetch(0, 40, 1, 99) = LET_IN
                pass(51) = 51
                fetch(0, 51, 1, 99) = KEPT_OUT
                has(0) = false
                """);
        checks.script("promise 2, step 2: removed though pinned entries leave no room", """
                fetch(0, 40, 1, 9) = LET_IN
                fetch(1, 60, 1, 9) = LET_IN
                pin(1, true) = false
                fetch(0, 41, 1, 9) = KEPT_OUT
                has(0) = false
                used() = 60
                """);
        checks.script("promise 2, step 2: it does not leave in the order: clock and left stay", """
                fetch(0, 10, 9, 9) = LET_IN
                fetch(0, 11, 1, 9) = LET_IN
                clock() = 0
                left() = 0
                worthOf(0) = 90
                """);
        checks.script("promise 2, step 2: its room is free before another entry leaves", """
                fetch(0, 60, 9, 9) = LET_IN
                fetch(1, 40, 0, 9) = LET_IN
                fetch(0, 59, 9, 9) = LET_IN
                has(1) = true
                left() = 0
                """);
    }

    private static void capacity(Checks checks) {
        checks.script("promise 2, step 3: a size at the capacity is let in", """
                fetch(0, 100, 1, 9) = LET_IN
                """);
        checks.script("promise 2, step 3: a size one above the capacity is not let in", """
                fetch(0, 101, 1, 9) = KEPT_OUT
                has(0) = false
                """);
        checks.script("promise 2, step 3: at the least capacity", """
                setCapacity(1) = 0
                fetch(0, 2, 1, 9) = KEPT_OUT
                fetch(0, 1, 1, 9) = LET_IN
                """);
        checks.script("promise 2, step 3: the greatest size, and a capacity one below it and at it", """
                setCapacity(999) = 0
                fetch(0, 1000, 1, 9) = KEPT_OUT
                setCapacity(1000) = 0
                fetch(0, 1000, 1, 9) = LET_IN
                """);
        checks.script("promise 2, step 3: a miss before does not help above the capacity", """
                fetch(0, 101, 1, 9) = KEPT_OUT
                fetch(0, 101, 1, 9) = KEPT_OUT
                setThreshold(50) = 1000
                fetch(0, 101, 1, 9) = KEPT_OUT
                """);
    }

    private static void threshold(Checks checks) {
        checks.script("promise 2, step 3: a size at the threshold is let in", """
                setThreshold(20) = 1000
                fetch(0, 20, 1, 9) = LET_IN
                """);
        checks.script("promise 2, step 3: a size one above the threshold is not let in", """
                setThreshold(20) = 1000
                fetch(0, 21, 1, 9) = KEPT_OUT
                has(0) = false
                """);
        checks.script("promise 2, step 3: at the least threshold", """
                setThreshold(1) = 1000
                fetch(0, 2, 1, 9) = KEPT_OUT
                fetch(1, 1, 1, 9) = LET_IN
                """);
        checks.script("promise 2, step 3: the greatest size, and a threshold one below it and at it", """
                setCapacity(1000) = 0
                setThreshold(999) = 1000
                fetch(0, 1000, 1, 9) = KEPT_OUT
                setThreshold(1000) = 999
                fetch(1, 1000, 1, 9) = LET_IN
                """);
        checks.script("promise 2, step 3: the threshold is 1000 at first", """
                setCapacity(1000) = 0
                fetch(0, 1000, 1, 9) = LET_IN
                """);
        checks.script("promise 2, step 3: a great thing must be fetched twice to be let in", """
                setThreshold(20) = 1000
                fetch(0, 21, 1, 9) = KEPT_OUT
                fetch(0, 21, 1, 9) = LET_IN
                fetch(0, 21, 1, 9) = HIT
                """);
    }

    private static void lastMiss(Checks checks) {
        checks.script("promise 2, step 3: a miss 50 ago lets in above the threshold", """
                setThreshold(20) = 1000
                fetch(0, 21, 1, 9) = KEPT_OUT
                pass(50) = 50
                fetch(0, 21, 1, 9) = LET_IN
                """);
        checks.script("promise 2, step 3: a miss 51 ago does not", """
                setThreshold(20) = 1000
                fetch(0, 21, 1, 9) = KEPT_OUT
                pass(51) = 51
                fetch(0, 21, 1, 9) = KEPT_OUT
                """);
        checks.script("promise 2, step 3: 50 ago and 51 ago, when the first miss was late", """
                pass(777) = 777
                setThreshold(20) = 1000
                fetch(0, 21, 1, 9) = KEPT_OUT
                fetch(1, 21, 1, 9) = KEPT_OUT
                pass(50) = 827
                fetch(0, 21, 1, 9) = LET_IN
                pass(1) = 828
                fetch(1, 21, 1, 9) = KEPT_OUT
                """);
        checks.script("promise 2, step 3: without a miss before, also when the time is at most 50", """
                setThreshold(20) = 1000
                fetch(0, 21, 1, 9) = KEPT_OUT
                pass(1) = 1
                fetch(1, 21, 1, 9) = KEPT_OUT
                pass(49) = 50
                fetch(2, 21, 1, 9) = KEPT_OUT
                """);
        checks.script("promise 2, step 3: the last miss counts, not the first", """
                setThreshold(20) = 1000
                fetch(0, 21, 1, 9) = KEPT_OUT
                pass(51) = 51
                fetch(0, 21, 1, 9) = KEPT_OUT
                pass(50) = 101
                fetch(0, 21, 1, 9) = LET_IN
                """);
        checks.script("promise 2, step 3: only misses of this thing count", """
                setThreshold(20) = 1000
                fetch(1, 21, 1, 9) = KEPT_OUT
                fetch(0, 21, 1, 9) = KEPT_OUT
                fetch(2, 21, 1, 9) = KEPT_OUT
                fetch(31, 21, 1, 9) = KEPT_OUT
                fetch(1, 21, 1, 9) = LET_IN
                """);
        checks.script("promise 2, step 3: a miss that was let in counts", """
                setThreshold(20) = 1000
                fetch(0, 20, 1, 99) = LET_IN
                pass(50) = 50
                fetch(0, 21, 1, 99) = LET_IN
                """);
        checks.script("promise 2, step 3: a miss that was above the capacity counts", """
                fetch(0, 101, 1, 99) = KEPT_OUT
                setThreshold(20) = 1000
                fetch(0, 21, 1, 99) = LET_IN
                """);
        checks.script("promise 2, step 3: a miss that pinned entries kept out counts", """
                fetch(1, 80, 1, 99) = LET_IN
                pin(1, true) = false
                fetch(0, 21, 1, 99) = KEPT_OUT
                drop(1) = 80
                setThreshold(20) = 1000
                fetch(0, 21, 1, 99) = LET_IN
                """);
        checks.script("promise 2, step 3: a miss by an entry that was over counts", """
                fetch(0, 21, 1, 60) = LET_IN
                pass(60) = 60
                fetch(0, 21, 1, 60) = LET_IN
                drop(0) = 21
                setThreshold(20) = 1000
                pass(50) = 110
                fetch(0, 21, 1, 60) = LET_IN
                """);
        checks.script("promise 2, step 3: a hit is no miss", """
                fetch(0, 21, 1, 99) = LET_IN
                setThreshold(20) = 1000
                pass(51) = 51
                fetch(0, 21, 1, 99) = HIT
                drop(0) = 21
                fetch(0, 21, 1, 99) = KEPT_OUT
                """);
        checks.script("promise 2, step 3: neither drop nor purge is a miss", """
                fetch(0, 21, 1, 99) = LET_IN
                fetch(1, 21, 1, 51) = LET_IN
                setThreshold(20) = 1000
                pass(51) = 51
                drop(0) = 21
                purge() = 1
                fetch(0, 21, 1, 99) = KEPT_OUT
                fetch(1, 21, 1, 99) = KEPT_OUT
                """);
        checks.script("promise 2, step 3: a refused fetch is no miss", """
                setThreshold(20) = 1000
                fetch(0, 21, 1, 0) = throws.IllegalArgumentException
                fetch(0, 21, 1001, 9) = throws.IllegalArgumentException
                fetch(0, 1001, 1, 9) = throws.IllegalArgumentException
                fetch(0, 21, 1, 9) = KEPT_OUT
                """);
        checks.script("promise 2, step 3: a miss before does not help where pinned entries leave no room", """
                fetch(1, 80, 1, 99) = LET_IN
                pin(1, true) = false
                setThreshold(20) = 1000
                fetch(0, 21, 1, 9) = KEPT_OUT
                fetch(0, 21, 1, 9) = KEPT_OUT
                """);
    }

    private static void stepThreeRemovesNothing(Checks checks) {
        checks.script("promise 2, step 3: a thing above the capacity removes no other entry", """
                fetch(0, 60, 1, 5) = LET_IN
                fetch(1, 40, 1, 9) = LET_IN
                pass(5) = 5
                fetch(2, 101, 1, 9) = KEPT_OUT
                entries() = 2
                removedOver() = 0
                left() = 0
                """);
        checks.script("promise 2, step 3: a thing above the threshold removes no other entry", """
                fetch(0, 60, 1, 5) = LET_IN
                fetch(1, 40, 1, 9) = LET_IN
                pass(5) = 5
                setThreshold(50) = 1000
                fetch(2, 51, 1, 9) = KEPT_OUT
                entries() = 2
                removedOver() = 0
                left() = 0
                """);
    }

    private static void overGoes(Checks checks) {
        checks.script("promise 2, step 4: sizes that are at the capacity, added: nothing is removed", """
                fetch(0, 30, 9, 5) = LET_IN
                pass(5) = 5
                fetch(1, 70, 1, 9) = LET_IN
                has(0) = true
                used() = 100
                removedOver() = 0
                """);
        checks.script("promise 2, step 4: sizes that are one above the capacity: what is over is removed", """
                fetch(0, 30, 9, 5) = LET_IN
                pass(5) = 5
                fetch(1, 71, 1, 9) = LET_IN
                has(0) = false
                used() = 71
                removedOver() = 1
                """);
        checks.script("promise 2, step 4: all that are over are removed, not as many as needed", """
                fetch(0, 20, 9, 5) = LET_IN
                fetch(1, 20, 9, 5) = LET_IN
                fetch(2, 20, 9, 5) = LET_IN
                pass(5) = 5
                fetch(3, 41, 1, 9) = LET_IN
                entries() = 1
                removedOver() = 3
                """);
        checks.script("promise 2, step 4: pinned ones too", """
                fetch(0, 60, 9, 5) = LET_IN
                fetch(1, 40, 9, 9) = LET_IN
                pin(0, true) = false
                pass(5) = 5
                fetch(2, 60, 1, 9) = LET_IN
                has(0) = false
                has(1) = true
                removedOver() = 1
                left() = 0
                """);
        checks.script("promise 2, step 4: at its end or behind it, but not just before it", """
                fetch(0, 30, 9, 4) = LET_IN
                fetch(1, 30, 9, 5) = LET_IN
                fetch(2, 30, 9, 6) = LET_IN
                pass(5) = 5
                fetch(3, 11, 1, 9) = LET_IN
                has(0) = false
                has(1) = false
                has(2) = true
                removedOver() = 2
                """);
        checks.script("promise 2, step 4: what is over goes first, though it has the greater worth", """
                fetch(0, 50, 0, 9) = LET_IN
                fetch(1, 50, 9, 5) = LET_IN
                pass(5) = 5
                fetch(2, 50, 1, 9) = LET_IN
                has(0) = true
                has(1) = false
                left() = 0
                clock() = 0
                """);
        checks.script("promise 2, steps 4 and 5: where that is not enough, others leave, too", """
                fetch(0, 40, 0, 9) = LET_IN
                fetch(1, 30, 9, 5) = LET_IN
                fetch(2, 30, 1, 9) = LET_IN
                pass(5) = 5
                fetch(3, 31, 1, 9) = LET_IN
                has(0) = false
                has(1) = false
                has(2) = true
                left() = 1
                removedOver() = 1
                """);
        checks.script("promise 2, step 4: what is over is removed though the thing is not let in by step 5", """
                fetch(0, 60, 9, 9) = LET_IN
                pin(0, true) = false
                fetch(1, 20, 9, 5) = LET_IN
                fetch(2, 20, 0, 9) = LET_IN
                pass(5) = 5
                fetch(3, 41, 1, 9) = KEPT_OUT
                has(1) = false
                has(2) = true
                removedOver() = 1
                left() = 0
                clock() = 0
                """);
        checks.script("promise 2, step 4: the thing's own entry, removed before, is not removed twice", """
                fetch(0, 60, 1, 5) = LET_IN
                fetch(1, 40, 1, 5) = LET_IN
                pass(5) = 5
                fetch(0, 61, 1, 5) = LET_IN
                entries() = 1
                removedOver() = 2
                """);
    }

    private static void pinnedStay(Checks checks) {
        checks.script("promise 2, step 5: a size that the pinned entries just leave room for", """
                fetch(0, 60, 0, 9) = LET_IN
                fetch(1, 40, 9, 9) = LET_IN
                pin(0, true) = false
                fetch(2, 40, 1, 9) = LET_IN
                has(0) = true
                has(1) = false
                """);
        checks.script("promise 2, step 5: one above that is not let in, and nothing leaves", """
                fetch(0, 60, 0, 9) = LET_IN
                fetch(1, 40, 9, 9) = LET_IN
                pin(0, true) = false
                fetch(2, 41, 1, 9) = KEPT_OUT
                has(0) = true
                has(1) = true
                has(2) = false
                left() = 0
                clock() = 0
                """);
        checks.script("promise 2, step 5: several pinned entries count together", """
                fetch(0, 30, 0, 9) = LET_IN
                fetch(1, 30, 0, 9) = LET_IN
                pin(0, true) = false
                pin(1, true) = false
                fetch(2, 41, 1, 9) = KEPT_OUT
                fetch(2, 40, 1, 9) = LET_IN
                """);
        checks.script("promise 2, step 5: a pinned entry just before its end stands in the way", """
                fetch(0, 60, 1, 5) = LET_IN
                pin(0, true) = false
                pass(4) = 4
                fetch(1, 41, 1, 9) = KEPT_OUT
                """);
        checks.script("promise 2, step 5: a pinned entry at its end does not", """
                fetch(0, 60, 1, 5) = LET_IN
                pin(0, true) = false
                pass(5) = 5
                fetch(1, 100, 1, 9) = LET_IN
                """);
        checks.script("promise 2, step 5: an unpinned entry does not", """
                fetch(0, 60, 1, 9) = LET_IN
                pin(0, true) = false
                pin(0, false) = true
                fetch(1, 100, 1, 9) = LET_IN
                has(0) = false
                """);
        checks.script("promise 2, step 5: all others in and pinned, without room for one", """
                setCapacity(32) = 0
                all: fetch(#, 1, 1, 9) = LET_IN
                all: pin(#, true) = false
                drop(31) = 1
                setCapacity(31) = 0
                fetch(31, 1, 1, 9) = KEPT_OUT
                setCapacity(32) = 0
                fetch(31, 2, 1, 9) = KEPT_OUT
                fetch(31, 1, 1, 9) = LET_IN
                entries() = 32
                left() = 0
                """);
    }

    private static void leave(Checks checks) {
        checks.script("promise 2, step 5: sizes that are at the capacity, added: nothing leaves", """
                fetch(0, 50, 1, 9) = LET_IN
                fetch(1, 50, 1, 9) = LET_IN
                entries() = 2
                left() = 0
                """);
        checks.script("promise 2, step 5: sizes that are one above it: the first entry leaves", """
                fetch(0, 50, 1, 9) = LET_IN
                fetch(1, 51, 1, 9) = LET_IN
                has(0) = false
                left() = 1
                """);
        checks.script("promise 2, step 5: entries leave only as long as there is not enough room", """
                setCapacity(32) = 0
                all: fetch(#, 1, #, 99) = LET_IN
                drop(31) = 1
                fetch(31, 3, 500, 99) = LET_IN
                entries() = 30
                has(1) = false
                has(2) = true
                left() = 2
                drop(31) = 3
                fetch(31, 4, 500, 99) = LET_IN
                has(2) = false
                has(3) = true
                left() = 3
                """);
        checks.script("promise 2, step 5: all entries leave where the size is the capacity", """
                setCapacity(32) = 0
                all: fetch(#, 1, #, 99) = LET_IN
                fetch(0, 32, 1, 99) = LET_IN
                entries() = 1
                used() = 32
                left() = 31
                clock() = 31000
                """);
        checks.script("promise 2, step 5: the least worth leaves first, not the least size or price", """
                fetch(0, 10, 2, 9) = LET_IN
                fetch(1, 80, 9, 9) = LET_IN
                fetch(2, 10, 3, 9) = LET_IN
                fetch(3, 1, 1, 9) = LET_IN
                has(0) = true
                has(1) = false
                has(2) = true
                """);
        checks.script("promise 2, step 5: of the same worth the one leaves that was let in the longest ago", """
                fetch(7, 40, 0, 9) = LET_IN
                fetch(3, 40, 0, 9) = LET_IN
                fetch(5, 40, 0, 9) = LET_IN
                has(7) = false
                has(3) = true
                """);
        checks.script("promise 2, step 5: of the same worth the one that was hit stays longer", """
                fetch(7, 40, 0, 9) = LET_IN
                fetch(3, 40, 0, 9) = LET_IN
                fetch(7, 40, 0, 9) = HIT
                fetch(5, 40, 0, 9) = LET_IN
                has(7) = true
                has(3) = false
                """);
        checks.script("promise 2, step 5: a pinned entry does not leave, though it has the least worth", """
                fetch(0, 50, 0, 9) = LET_IN
                fetch(1, 50, 9, 9) = LET_IN
                pin(0, true) = false
                fetch(2, 50, 1, 9) = LET_IN
                has(0) = true
                has(1) = false
                """);
    }

    private static void clock(Checks checks) {
        checks.script("promise 2, step 5: the clock becomes the worth of what leaves", """
                fetch(0, 100, 5, 9) = LET_IN
                clock() = 0
                fetch(1, 100, 7, 9) = LET_IN
                clock() = 50
                fetch(2, 100, 1, 9) = LET_IN
                clock() = 120
                """);
        checks.script("promise 2, step 5: where several leave, the greatest worth of them", """
                fetch(0, 30, 3, 9) = LET_IN
                fetch(1, 30, 6, 9) = LET_IN
                fetch(2, 30, 9, 9) = LET_IN
                fetch(3, 70, 1, 9) = LET_IN
                clock() = 200
                left() = 2
                """);
        checks.script("promise 2, step 5: the clock stays if the worth is the same", """
                fetch(0, 100, 5, 9) = LET_IN
                fetch(1, 100, 0, 9) = LET_IN
                worthOf(1) = 50
                fetch(2, 100, 0, 9) = LET_IN
                clock() = 50
                """);
        checks.script("promise 2, step 5: the clock stays if the worth is less", """
                fetch(0, 10, 1, 9) = LET_IN
                pin(0, true) = false
                fetch(1, 90, 90, 9) = LET_IN
                fetch(2, 90, 0, 9) = LET_IN
                clock() = 1000
                drop(2) = 90
                pin(0, false) = true
                worthOf(0) = 100
                fetch(3, 100, 1, 9) = LET_IN
                left() = 2
                clock() = 1000
                """);
        checks.script("promise 2, steps 5 and 6: the worth of what is let in counts from the clock then", """
                fetch(0, 100, 5, 9) = LET_IN
                fetch(1, 100, 7, 9) = LET_IN
                worthOf(1) = 120
                """);
        checks.script("promise 2, step 6: the clock stays where nothing leaves", """
                fetch(0, 50, 5, 9) = LET_IN
                fetch(1, 50, 7, 9) = LET_IN
                clock() = 0
                """);
    }

    private static void letIn(Checks checks) {
        checks.script("promise 2, step 6: all that an entry has", """
                pass(3) = 3
                fetch(4, 10, 5, 20) = LET_IN
                has(4) = true
                sizeOf(4) = 10
                frequencyOf(4) = 1
                worthOf(4) = 500
                endOf(4) = 23
                isOver(4) = false
                placeOf(4) = 0
                pin(4, false) = false
                """);
        checks.script("promise 2, step 6: nothing stays of an entry that the thing had before", """
                fetch(4, 10, 5, 20) = LET_IN
                fetch(4, 10, 5, 20) = HIT
                fetch(4, 10, 5, 20) = HIT
                pin(4, true) = false
                drop(4) = 10
                fetch(4, 20, 5, 30) = LET_IN
                sizeOf(4) = 20
                frequencyOf(4) = 1
                worthOf(4) = 250
                endOf(4) = 30
                pin(4, false) = false
                """);
        checks.script("promise 2, step 6: let in again, it is the last of the same worth", """
                fetch(0, 10, 0, 9) = LET_IN
                fetch(1, 10, 0, 9) = LET_IN
                fetch(0, 11, 0, 9) = LET_IN
                leaving(0) = 1
                leaving(1) = 0
                """);
        checks.script("promise 2: at most one entry for each thing, at most the capacity together", """
                all: fetch(#, 7, 1, 9) = LET_IN
                entries() = 14
                used() = 98
                fetch(31, 9, 1, 9) = LET_IN
                entries() = 14
                used() = 100
                fetch(30, 8, 1, 9) = LET_IN
                entries() = 13
                used() = 94
                """);
    }
}
