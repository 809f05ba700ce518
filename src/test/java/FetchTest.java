/** Promise 2: the six steps of a fetch. */
final class FetchTest {
    static void run(Checks checks) {
        checks.test("fetch: a miss is let in", () -> letIn(checks));
        checks.test("fetch: the first and last of each range", () -> ranges(checks));
        checks.test("fetch: no such thing", () -> noSuchThing(checks));
        checks.test("fetch: arguments out of range", () -> outOfRange(checks));
        checks.test("fetch: a refused call is no miss", () -> refusedIsNoMiss(checks));
        checks.test("step 1: a hit", () -> hit(checks));
        checks.test("step 1: a hit when the clock is up", () -> hitOverClock(checks));
        checks.test("step 1: until just before the end", () -> hitUntilEnd(checks));
        checks.test("step 1: a hit keeps the pin", () -> hitKeepsPin(checks));
        checks.test("step 1: a hit is asked nothing of the threshold", () -> hitAboveThreshold(checks));
        checks.test("step 2: another size is a miss", () -> otherSize(checks));
        checks.test("step 2: the entry goes, pinned, and stays gone", () -> pinnedGoes(checks));
        checks.test("step 3: above the capacity", () -> aboveCapacity(checks));
        checks.test("step 3: nothing is removed for a thing kept out", () -> step3RemovesNothing(checks));
        checks.test("step 3: above the threshold", () -> aboveThreshold(checks));
        checks.test("step 3: fifty ago and fifty-one", () -> fiftyAgo(checks));
        checks.test("step 3: only misses of this thing", () -> ownMissesOnly(checks));
        checks.test("step 3: a hit is no miss", () -> hitIsNoMiss(checks));
        checks.test("step 3: every miss counts, let in or not", () -> everyMissCounts(checks));
        checks.test("step 4: all that is over goes, pinned too", () -> overGoes(checks));
        checks.test("step 4: nothing goes while there is room", () -> overStays(checks));
        checks.test("step 4: what is over goes though the thing stays out", () -> overGoesForNothing(checks));
        checks.test("step 5: pinned entries stand in the way", () -> pinnedStands(checks));
        checks.test("step 5: by worth, then by last use", () -> order(checks));
        checks.test("step 5: only as many as needed", () -> onlyNeeded(checks));
        checks.test("step 5: the clock goes up only", () -> clockGoesUp(checks));
        checks.test("step 6: a new entry", () -> newEntry(checks));
        checks.test("worth: rounded down, and stays", () -> worth(checks));
    }

    private static void letIn(Checks checks) {
        WorthCache cache = new WorthCache();
        checks.due("fetch(4, 10, 5, 20)", cache.fetch(4, 10, 5, 20), WorthCache.LET_IN);
        checks.same("the cache", Checks.state(cache), "4: size 10 frequency 1 worth 500 end 20 over false place 0\n"
                + "time 0 clock 0 capacity 100 entries 1 used 10 hits 0 misses 1 bytesHit 0 saved 0"
                + " paid 5 left 0 removedOver 0 endsFirst 4");
    }

    private static void ranges(Checks checks) {
        WorthCache cache = new WorthCache();
        cache.setCapacity(10000);
        checks.due("fetch(0, 1, 0, 1)", cache.fetch(0, 1, 0, 1), WorthCache.LET_IN);
        checks.due("fetch(31, 1000, 1000, 10000)", cache.fetch(31, 1000, 1000, 10000), WorthCache.LET_IN);
        checks.due("worthOf(0)", cache.worthOf(0), 0);
        checks.due("worthOf(31)", cache.worthOf(31), 1000);
        checks.due("endOf(0)", cache.endOf(0), 1);
        checks.due("endOf(31)", cache.endOf(31), 10000);
        checks.due("paid()", cache.paid(), 1000);
    }

    private static void noSuchThing(Checks checks) {
        WorthCache cache = Checks.fullOfAll();
        Class<IndexOutOfBoundsException> due = IndexOutOfBoundsException.class;
        int[] wrong = {-1, 32, Integer.MIN_VALUE, Integer.MAX_VALUE};
        for (int thing : wrong) {
            checks.refused(cache, due, "fetch of " + thing, () -> cache.fetch(thing, 1, 1, 1));
            checks.refused(cache, due, "fetch of " + thing + ", all wrong", () -> cache.fetch(thing, 0, -1, 0));
        }
    }

    private static void outOfRange(Checks checks) {
        WorthCache cache = Checks.fullOfAll();
        int[][] wrong = {
            {0, 1, 1}, {1001, 1, 1}, {1, -1, 1}, {1, 1001, 1}, {1, 1, 0}, {1, 1, 10001},
            {-1, 1, 1}, {1, 1, -1}, {Integer.MIN_VALUE, 1, 1}, {Integer.MAX_VALUE, 1, 1},
            {1, Integer.MIN_VALUE, 1}, {1, Integer.MAX_VALUE, 1}, {1, 1, Integer.MIN_VALUE}, {1, 1, Integer.MAX_VALUE},
        };
        for (int[] told : wrong) {
            String name = "fetch(0, " + told[0] + ", " + told[1] + ", " + told[2] + ")";
            checks.refused(cache, IllegalArgumentException.class, name,
                    () -> cache.fetch(0, told[0], told[1], told[2]));
        }
    }

    private static void refusedIsNoMiss(Checks checks) {
        WorthCache cache = new WorthCache();
        cache.setThreshold(1);
        checks.refused(cache, IllegalArgumentException.class, "fetch(0, 5, 1, 0)", () -> cache.fetch(0, 5, 1, 0));
        checks.due("fetch(0, 5, 1, 1)", cache.fetch(0, 5, 1, 1), WorthCache.KEPT_OUT);
    }

    private static void hit(Checks checks) {
        WorthCache cache = new WorthCache();
        cache.fetch(4, 10, 5, 20);
        cache.pass(3);
        checks.due("fetch(4, 10, 7, 500)", cache.fetch(4, 10, 7, 500), WorthCache.HIT);
        checks.same("the cache", Checks.state(cache), "4: size 10 frequency 2 worth 1400 end 20 over false place 0\n"
                + "time 3 clock 0 capacity 100 entries 1 used 10 hits 1 misses 1 bytesHit 10 saved 7"
                + " paid 5 left 0 removedOver 0 endsFirst 4");
        checks.due("fetch(4, 10, 0, 1)", cache.fetch(4, 10, 0, 1), WorthCache.HIT);
        checks.due("worthOf(4)", cache.worthOf(4), 0);
        checks.due("frequencyOf(4)", cache.frequencyOf(4), 3);
    }

    private static void hitOverClock(Checks checks) {
        WorthCache cache = new WorthCache();
        cache.fetch(0, 40, 2, 20);
        cache.fetch(1, 60, 9, 20);
        cache.fetch(2, 40, 9, 20);
        checks.due("clock()", cache.clock(), 50);
        checks.due("worthOf(1)", cache.worthOf(1), 150);
        checks.due("worthOf(2)", cache.worthOf(2), 275);
        checks.due("fetch(1, 60, 9, 20)", cache.fetch(1, 60, 9, 20), WorthCache.HIT);
        checks.due("worthOf(1)", cache.worthOf(1), 350);
    }

    private static void hitUntilEnd(Checks checks) {
        WorthCache cache = new WorthCache();
        cache.fetch(0, 10, 1, 5);
        cache.pass(4);
        checks.due("fetch at 4", cache.fetch(0, 10, 1, 5), WorthCache.HIT);
        cache.pass(1);
        checks.due("fetch at 5", cache.fetch(0, 10, 1, 5), WorthCache.LET_IN);
        checks.due("endOf(0)", cache.endOf(0), 10);
        checks.due("frequencyOf(0)", cache.frequencyOf(0), 1);
        checks.due("removedOver()", cache.removedOver(), 1);
    }

    private static void hitKeepsPin(Checks checks) {
        WorthCache cache = new WorthCache();
        cache.fetch(0, 10, 1, 5);
        cache.pin(0, true);
        cache.fetch(0, 10, 1, 5);
        checks.due("placeOf(0)", cache.placeOf(0), WorthCache.NONE);
        checks.due("pin(0, true)", cache.pin(0, true), true);
    }

    private static void hitAboveThreshold(Checks checks) {
        WorthCache cache = new WorthCache();
        cache.fetch(0, 10, 1, 1000);
        cache.pass(100);
        cache.setThreshold(1);
        checks.due("fetch(0, 10, 1, 5)", cache.fetch(0, 10, 1, 5), WorthCache.HIT);
    }

    private static void otherSize(Checks checks) {
        WorthCache cache = new WorthCache();
        cache.fetch(0, 10, 1, 50);
        cache.fetch(0, 10, 1, 50);
        checks.due("fetch(0, 11, 1, 60)", cache.fetch(0, 11, 1, 60), WorthCache.LET_IN);
        checks.due("frequencyOf(0)", cache.frequencyOf(0), 1);
        checks.due("used()", cache.used(), 11);
        checks.due("endOf(0)", cache.endOf(0), 60);
        checks.due("fetch(0, 9, 1, 60)", cache.fetch(0, 9, 1, 60), WorthCache.LET_IN);
        checks.due("misses()", cache.misses(), 3);
        checks.due("left()", cache.left(), 0);
        checks.due("removedOver()", cache.removedOver(), 0);
        checks.due("clock()", cache.clock(), 0);
    }

    private static void pinnedGoes(Checks checks) {
        WorthCache cache = new WorthCache();
        cache.fetch(0, 100, 1, 50);
        cache.pin(0, true);
        checks.due("fetch(0, 99, 1, 50)", cache.fetch(0, 99, 1, 50), WorthCache.LET_IN);
        checks.due("pin(0, true)", cache.pin(0, true), false);
        checks.due("fetch(0, 101, 1, 50)", cache.fetch(0, 101, 1, 50), WorthCache.KEPT_OUT);
        checks.due("has(0)", cache.has(0), false);
        checks.due("used()", cache.used(), 0);
    }

    private static void aboveCapacity(Checks checks) {
        WorthCache cache = new WorthCache();
        checks.due("fetch(0, 101, 1, 5)", cache.fetch(0, 101, 1, 5), WorthCache.KEPT_OUT);
        checks.due("fetch(0, 101, 1, 5) again", cache.fetch(0, 101, 1, 5), WorthCache.KEPT_OUT);
        checks.due("fetch(0, 100, 1, 5)", cache.fetch(0, 100, 1, 5), WorthCache.LET_IN);
        checks.due("misses()", cache.misses(), 3);
        checks.due("paid()", cache.paid(), 3);
    }

    private static void step3RemovesNothing(Checks checks) {
        WorthCache cache = new WorthCache();
        cache.fetch(0, 60, 1, 5);
        cache.pass(5);
        cache.setThreshold(50);
        checks.due("fetch(1, 101, 1, 5)", cache.fetch(1, 101, 1, 5), WorthCache.KEPT_OUT);
        checks.due("fetch(2, 51, 1, 5)", cache.fetch(2, 51, 1, 5), WorthCache.KEPT_OUT);
        checks.due("has(0)", cache.has(0), true);
        checks.due("removedOver()", cache.removedOver(), 0);
    }

    private static void aboveThreshold(Checks checks) {
        WorthCache cache = new WorthCache();
        cache.setThreshold(20);
        checks.due("fetch(0, 20, 1, 5)", cache.fetch(0, 20, 1, 5), WorthCache.LET_IN);
        checks.due("fetch(1, 21, 1, 5)", cache.fetch(1, 21, 1, 5), WorthCache.KEPT_OUT);
        checks.due("fetch(1, 21, 1, 5) again", cache.fetch(1, 21, 1, 5), WorthCache.LET_IN);
        checks.due("fetch(1, 21, 1, 5) in", cache.fetch(1, 21, 1, 5), WorthCache.HIT);
    }

    private static void fiftyAgo(Checks checks) {
        WorthCache cache = new WorthCache();
        cache.setThreshold(20);
        cache.fetch(0, 21, 1, 5);
        cache.fetch(1, 21, 1, 5);
        cache.pass(50);
        checks.due("fetch 50 after", cache.fetch(0, 21, 1, 5), WorthCache.LET_IN);
        cache.pass(1);
        checks.due("fetch 51 after", cache.fetch(1, 21, 1, 5), WorthCache.KEPT_OUT);
        cache.pass(50);
        checks.due("fetch 50 after that", cache.fetch(1, 21, 1, 5), WorthCache.LET_IN);
    }

    private static void ownMissesOnly(Checks checks) {
        WorthCache cache = new WorthCache();
        cache.setThreshold(20);
        cache.fetch(0, 21, 1, 5);
        checks.due("fetch(1, ..)", cache.fetch(1, 21, 1, 5), WorthCache.KEPT_OUT);
        checks.due("fetch(31, ..)", cache.fetch(31, 21, 1, 5), WorthCache.KEPT_OUT);
        checks.due("fetch(0, ..)", cache.fetch(0, 21, 1, 5), WorthCache.LET_IN);
    }

    private static void hitIsNoMiss(Checks checks) {
        WorthCache cache = new WorthCache();
        cache.fetch(0, 21, 1, 100);
        cache.setThreshold(20);
        cache.pass(51);
        checks.due("the hit", cache.fetch(0, 21, 1, 5), WorthCache.HIT);
        cache.drop(0);
        checks.due("the miss", cache.fetch(0, 21, 1, 5), WorthCache.KEPT_OUT);
    }

    private static void everyMissCounts(Checks checks) {
        WorthCache cache = new WorthCache();
        cache.setThreshold(20);
        cache.fetch(0, 5, 1, 100);
        checks.due("a let in one before", cache.fetch(0, 21, 1, 100), WorthCache.LET_IN);
        cache.fetch(1, 101, 1, 100);
        checks.due("one above the capacity before", cache.fetch(1, 21, 1, 100), WorthCache.LET_IN);
        cache.setThreshold(1000);
        cache.drop(0);
        cache.fetch(2, 79, 1, 100);
        cache.pin(1, true);
        cache.pin(2, true);
        checks.due("no room", cache.fetch(3, 1, 1, 100), WorthCache.KEPT_OUT);
        cache.drop(2);
        cache.setThreshold(20);
        cache.pass(50);
        checks.due("one without room before", cache.fetch(3, 21, 1, 100), WorthCache.LET_IN);
    }

    private static void overGoes(Checks checks) {
        WorthCache cache = new WorthCache();
        cache.fetch(0, 30, 9, 5);
        cache.fetch(1, 30, 9, 5);
        cache.fetch(2, 30, 0, 6);
        cache.pin(1, true);
        cache.pass(5);
        checks.due("fetch(3, 11, 1, 5)", cache.fetch(3, 11, 1, 5), WorthCache.LET_IN);
        checks.due("has(0)", cache.has(0), false);
        checks.due("has(1)", cache.has(1), false);
        checks.due("has(2)", cache.has(2), true);
        checks.due("removedOver()", cache.removedOver(), 2);
        checks.due("left()", cache.left(), 0);
        checks.due("clock()", cache.clock(), 0);
    }

    private static void overStays(Checks checks) {
        WorthCache cache = new WorthCache();
        cache.fetch(0, 30, 9, 5);
        cache.pass(5);
        checks.due("fetch(1, 70, 1, 5)", cache.fetch(1, 70, 1, 5), WorthCache.LET_IN);
        checks.due("has(0)", cache.has(0), true);
        checks.due("used()", cache.used(), 100);
    }

    private static void overGoesForNothing(Checks checks) {
        WorthCache cache = new WorthCache();
        cache.fetch(0, 60, 9, 50);
        cache.pin(0, true);
        cache.fetch(1, 20, 9, 5);
        cache.fetch(2, 20, 9, 50);
        cache.pass(5);
        checks.due("fetch(3, 41, 1, 5)", cache.fetch(3, 41, 1, 5), WorthCache.KEPT_OUT);
        checks.due("has(1)", cache.has(1), false);
        checks.due("has(2)", cache.has(2), true);
        checks.due("removedOver()", cache.removedOver(), 1);
        checks.due("left()", cache.left(), 0);
        checks.due("clock()", cache.clock(), 0);
    }

    private static void pinnedStands(Checks checks) {
        WorthCache cache = new WorthCache();
        cache.fetch(0, 60, 0, 50);
        cache.fetch(1, 40, 9, 50);
        cache.pin(0, true);
        checks.due("fetch(2, 41, 9, 50)", cache.fetch(2, 41, 9, 50), WorthCache.KEPT_OUT);
        checks.due("has(1)", cache.has(1), true);
        checks.due("fetch(2, 40, 9, 50)", cache.fetch(2, 40, 9, 50), WorthCache.LET_IN);
        checks.due("has(0)", cache.has(0), true);
        checks.due("has(1)", cache.has(1), false);
    }

    private static void order(Checks checks) {
        WorthCache cache = new WorthCache();
        cache.fetch(3, 20, 2, 50);
        cache.fetch(2, 20, 1, 50);
        cache.fetch(1, 20, 1, 50);
        cache.fetch(0, 20, 1, 50);
        cache.fetch(4, 20, 2, 50);
        checks.same("the order", Checks.order(cache), " 2 1 0 3 4");
        cache.fetch(5, 1, 1, 50);
        checks.same("the order", Checks.order(cache), " 1 0 3 4 5");
        cache.fetch(6, 20, 1, 50);
        checks.same("the order", Checks.order(cache), " 0 3 4 6 5");
        checks.due("clock()", cache.clock(), 50);
    }

    private static void onlyNeeded(Checks checks) {
        WorthCache cache = Checks.fullOfAll();
        checks.due("fetch(31, 3, 1, 50)", cache.fetch(31, 3, 1, 50), WorthCache.LET_IN);
        checks.due("entries()", cache.entries(), 30);
        checks.due("has(1)", cache.has(1), false);
        checks.due("has(2)", cache.has(2), true);
        checks.due("left()", cache.left(), 2);
        checks.due("clock()", cache.clock(), 1000);
        checks.due("fetch(0, 32, 1, 50)", cache.fetch(0, 32, 1, 50), WorthCache.LET_IN);
        checks.due("entries()", cache.entries(), 1);
        checks.due("left()", cache.left(), 32);
        checks.due("clock()", cache.clock(), 30000);
    }

    private static void clockGoesUp(Checks checks) {
        WorthCache cache = new WorthCache();
        cache.fetch(0, 10, 1, 50);
        cache.fetch(1, 90, 9, 50);
        cache.pin(0, true);
        cache.fetch(2, 90, 0, 50);
        checks.due("clock()", cache.clock(), 100);
        cache.fetch(2, 90, 0, 50);
        checks.due("worthOf(2)", cache.worthOf(2), 100);
        cache.fetch(3, 90, 50, 50);
        checks.due("worthOf(3)", cache.worthOf(3), 655);
        cache.fetch(4, 90, 0, 50);
        checks.due("clock()", cache.clock(), 655);
        cache.pin(0, false);
        cache.fetch(5, 91, 0, 50);
        checks.due("left()", cache.left(), 5);
        checks.due("clock()", cache.clock(), 655);
    }

    private static void newEntry(Checks checks) {
        WorthCache cache = new WorthCache();
        cache.fetch(0, 10, 1, 5);
        cache.fetch(0, 10, 1, 5);
        cache.pin(0, true);
        cache.drop(0);
        cache.pass(3);
        checks.due("fetch(0, 20, 2, 7)", cache.fetch(0, 20, 2, 7), WorthCache.LET_IN);
        checks.due("sizeOf(0)", cache.sizeOf(0), 20);
        checks.due("frequencyOf(0)", cache.frequencyOf(0), 1);
        checks.due("endOf(0)", cache.endOf(0), 10);
        checks.due("worthOf(0)", cache.worthOf(0), 100);
        checks.due("pin(0, false)", cache.pin(0, false), false);
    }

    private static void worth(Checks checks) {
        WorthCache cache = new WorthCache();
        cache.fetch(0, 30, 2, 50);
        checks.due("worthOf(0)", cache.worthOf(0), 66);
        cache.fetch(1, 7, 1, 50);
        checks.due("worthOf(1)", cache.worthOf(1), 142);
        cache.fetch(1, 7, 1, 50);
        checks.due("worthOf(1)", cache.worthOf(1), 285);
        cache.fetch(2, 90, 1, 50);
        checks.due("clock()", cache.clock(), 66);
        checks.due("worthOf(1)", cache.worthOf(1), 285);
        checks.due("worthOf(2)", cache.worthOf(2), 77);
        checks.due("hit", cache.fetch(1, 7, 1, 50), WorthCache.HIT);
        checks.due("worthOf(1)", cache.worthOf(1), 494);
    }
}
