/** Promises 3 to 8: the other calls that change something. */
final class EventsTest {
    static void run(Checks checks) {
        checks.test("promise 3: pass", () -> pass(checks));
        checks.test("promise 3: pass, out of range", () -> passRefused(checks));
        checks.test("promise 4: pin", () -> pin(checks));
        checks.test("promise 4: pin of an entry that is over", () -> pinOver(checks));
        checks.test("promise 4: pin, refused", () -> pinRefused(checks));
        checks.test("promise 5: drop", () -> drop(checks));
        checks.test("promise 5: drop, refused", () -> dropRefused(checks));
        checks.test("promise 6: purge", () -> purge(checks));
        checks.test("promise 7: setCapacity, first and last", () -> capacityRange(checks));
        checks.test("promise 7: setCapacity lets entries leave", () -> capacityLeave(checks));
        checks.test("promise 7: setCapacity removes what is over", () -> capacityOver(checks));
        checks.test("promise 7: setCapacity removes nothing while they fit", () -> capacityFits(checks));
        checks.test("promise 7: setCapacity round pinned entries", () -> capacityPinned(checks));
        checks.test("promise 7: setCapacity, refused", () -> capacityRefused(checks));
        checks.test("promise 8: setThreshold", () -> threshold(checks));
        checks.test("promise 8: setThreshold, refused", () -> thresholdRefused(checks));
    }

    private static void pass(Checks checks) {
        WorthCache cache = new WorthCache();
        cache.fetch(0, 10, 1, 1);
        cache.pin(0, true);
        cache.fetch(1, 10, 1, 10000);
        checks.due("pass(1)", cache.pass(1), 1);
        checks.due("isOver(0)", cache.isOver(0), true);
        checks.due("isOver(1)", cache.isOver(1), false);
        checks.due("pass(10000)", cache.pass(10000), 10001);
        checks.due("time()", cache.time(), 10001);
        checks.due("isOver(1)", cache.isOver(1), true);
        checks.due("entries()", cache.entries(), 2);
        checks.due("removedOver()", cache.removedOver(), 0);
        checks.due("clock()", cache.clock(), 0);
    }

    private static void passRefused(Checks checks) {
        WorthCache cache = Checks.fullOfAll();
        int[] wrong = {0, 10001, -1, Integer.MIN_VALUE, Integer.MAX_VALUE};
        for (int ticks : wrong) {
            checks.refused(cache, IllegalArgumentException.class, "pass(" + ticks + ")", () -> cache.pass(ticks));
        }
    }

    private static void pin(Checks checks) {
        WorthCache cache = new WorthCache();
        cache.fetch(0, 10, 1, 50);
        cache.fetch(31, 10, 2, 50);
        String before = Checks.state(cache);
        checks.due("pin(0, true)", cache.pin(0, true), false);
        checks.due("pin(0, true) again", cache.pin(0, true), true);
        checks.same("the order", Checks.order(cache), " 31");
        checks.due("pin(31, false)", cache.pin(31, false), false);
        checks.due("pin(31, true)", cache.pin(31, true), false);
        checks.same("the order", Checks.order(cache), "");
        checks.due("pin(31, false)", cache.pin(31, false), true);
        checks.due("pin(0, false)", cache.pin(0, false), true);
        checks.same("the cache after all", Checks.state(cache), before);
    }

    private static void pinOver(Checks checks) {
        WorthCache cache = new WorthCache();
        cache.fetch(0, 10, 1, 5);
        cache.pass(5);
        checks.due("pin(0, true)", cache.pin(0, true), false);
        checks.due("pin(0, true) again", cache.pin(0, true), true);
    }

    private static void pinRefused(Checks checks) {
        WorthCache cache = Checks.fullOfAll();
        cache.drop(5);
        int[] wrong = {-1, 32, Integer.MIN_VALUE, Integer.MAX_VALUE};
        for (int thing : wrong) {
            String name = "pin of " + thing;
            checks.refused(cache, IndexOutOfBoundsException.class, name, () -> cache.pin(thing, true));
            checks.refused(cache, IndexOutOfBoundsException.class, name, () -> cache.pin(thing, false));
        }
        checks.refused(cache, IllegalStateException.class, "pin(5, true)", () -> cache.pin(5, true));
        checks.refused(cache, IllegalStateException.class, "pin(5, false)", () -> cache.pin(5, false));
        cache.fetch(5, 1, 1, 5);
        checks.due("pin(5, false)", cache.pin(5, false), false);
    }

    private static void drop(Checks checks) {
        WorthCache cache = new WorthCache();
        cache.fetch(0, 10, 1, 5);
        cache.fetch(31, 20, 2, 50);
        cache.fetch(7, 30, 3, 50);
        cache.pin(31, true);
        cache.pass(5);
        checks.due("drop(0), over", cache.drop(0), 10);
        checks.due("drop(31), pinned", cache.drop(31), 20);
        checks.due("drop(7)", cache.drop(7), 30);
        checks.same("the cache", Checks.state(cache), "time 5 clock 0 capacity 100 entries 0 used 0 hits 0 misses 3"
                + " bytesHit 0 saved 0 paid 6 left 0 removedOver 0 endsFirst -1");
    }

    private static void dropRefused(Checks checks) {
        WorthCache cache = Checks.fullOfAll();
        cache.drop(5);
        int[] wrong = {-1, 32, Integer.MIN_VALUE, Integer.MAX_VALUE};
        for (int thing : wrong) {
            checks.refused(cache, IndexOutOfBoundsException.class, "drop of " + thing, () -> cache.drop(thing));
        }
        checks.refused(cache, IllegalStateException.class, "drop(5)", () -> cache.drop(5));
        WorthCache empty = new WorthCache();
        checks.refused(empty, IllegalStateException.class, "drop(0)", () -> empty.drop(0));
    }

    private static void purge(Checks checks) {
        WorthCache cache = new WorthCache();
        checks.due("purge(), empty", cache.purge(), 0);
        cache.fetch(0, 10, 1, 5);
        cache.fetch(1, 10, 9, 5);
        cache.fetch(2, 10, 1, 6);
        cache.fetch(3, 10, 1, 6);
        cache.pin(1, true);
        cache.pin(3, true);
        cache.pass(4);
        checks.due("purge() at 4", cache.purge(), 0);
        cache.pass(1);
        checks.due("purge() at 5", cache.purge(), 2);
        checks.due("has(0)", cache.has(0), false);
        checks.due("has(1)", cache.has(1), false);
        checks.due("has(2)", cache.has(2), true);
        checks.due("has(3)", cache.has(3), true);
        checks.due("removedOver()", cache.removedOver(), 2);
        checks.due("left()", cache.left(), 0);
        checks.due("clock()", cache.clock(), 0);
        checks.due("purge() again", cache.purge(), 0);
    }

    private static void capacityRange(Checks checks) {
        WorthCache cache = new WorthCache();
        checks.due("setCapacity(1)", cache.setCapacity(1), 0);
        checks.due("capacity()", cache.capacity(), 1);
        checks.due("fetch(0, 2, 1, 5)", cache.fetch(0, 2, 1, 5), WorthCache.KEPT_OUT);
        checks.due("setCapacity(10000)", cache.setCapacity(10000), 0);
        checks.due("capacity()", cache.capacity(), 10000);
        for (int thing = 0; thing < 10; thing++) {
            cache.fetch(thing, 1000, 1, 5);
        }
        checks.due("used()", cache.used(), 10000);
    }

    private static void capacityLeave(Checks checks) {
        WorthCache cache = Checks.fullOfAll();
        checks.due("setCapacity(32)", cache.setCapacity(32), 0);
        checks.due("setCapacity(31)", cache.setCapacity(31), 1);
        checks.due("clock()", cache.clock(), 0);
        checks.due("setCapacity(28)", cache.setCapacity(28), 3);
        checks.due("clock()", cache.clock(), 3000);
        checks.due("left()", cache.left(), 4);
        checks.due("has(3)", cache.has(3), false);
        checks.due("has(4)", cache.has(4), true);
        checks.due("used()", cache.used(), 28);
        checks.due("capacity()", cache.capacity(), 28);
        checks.due("removedOver()", cache.removedOver(), 0);
    }

    private static void capacityOver(Checks checks) {
        WorthCache cache = new WorthCache();
        cache.fetch(0, 30, 9, 5);
        cache.fetch(1, 30, 1, 50);
        cache.fetch(2, 30, 2, 50);
        cache.fetch(3, 10, 9, 5);
        cache.pin(0, true);
        cache.pass(5);
        checks.due("setCapacity(60)", cache.setCapacity(60), 0);
        checks.due("removedOver()", cache.removedOver(), 2);
        checks.due("entries()", cache.entries(), 2);
        checks.due("clock()", cache.clock(), 0);
        checks.due("setCapacity(59)", cache.setCapacity(59), 1);
        checks.due("has(1)", cache.has(1), false);
        checks.due("clock()", cache.clock(), 33);
        checks.due("left()", cache.left(), 1);
    }

    private static void capacityFits(Checks checks) {
        WorthCache cache = new WorthCache();
        cache.fetch(0, 30, 9, 5);
        cache.pass(5);
        checks.due("setCapacity(30)", cache.setCapacity(30), 0);
        checks.due("has(0)", cache.has(0), true);
        checks.due("setCapacity(29)", cache.setCapacity(29), 0);
        checks.due("has(0)", cache.has(0), false);
        checks.due("removedOver()", cache.removedOver(), 1);
        checks.due("left()", cache.left(), 0);
    }

    private static void capacityPinned(Checks checks) {
        WorthCache cache = new WorthCache();
        cache.fetch(0, 30, 0, 50);
        cache.fetch(1, 30, 5, 50);
        cache.fetch(2, 30, 4, 50);
        cache.pin(0, true);
        checks.due("setCapacity(60)", cache.setCapacity(60), 1);
        checks.due("has(2)", cache.has(2), false);
        checks.due("setCapacity(30)", cache.setCapacity(30), 1);
        checks.due("has(0)", cache.has(0), true);
        checks.due("clock()", cache.clock(), 166);
    }

    private static void capacityRefused(Checks checks) {
        WorthCache cache = new WorthCache();
        cache.fetch(0, 30, 0, 50);
        cache.fetch(1, 20, 5, 50);
        cache.fetch(2, 20, 5, 5);
        cache.fetch(3, 20, 5, 50);
        cache.pin(0, true);
        cache.pin(2, true);
        cache.pin(3, true);
        cache.pass(5);
        int[] wrong = {0, 10001, -1, Integer.MIN_VALUE, Integer.MAX_VALUE};
        for (int to : wrong) {
            String name = "setCapacity(" + to + ")";
            checks.refused(cache, IllegalArgumentException.class, name, () -> cache.setCapacity(to));
        }
        checks.refused(cache, IllegalStateException.class, "setCapacity(49)", () -> cache.setCapacity(49));
        checks.refused(cache, IllegalStateException.class, "setCapacity(1)", () -> cache.setCapacity(1));
        checks.due("setCapacity(50)", cache.setCapacity(50), 1);
        checks.due("removedOver()", cache.removedOver(), 1);
        checks.due("used()", cache.used(), 50);
    }

    private static void threshold(Checks checks) {
        WorthCache cache = new WorthCache();
        cache.fetch(0, 30, 0, 50);
        String before = Checks.state(cache);
        checks.due("setThreshold(1)", cache.setThreshold(1), 1000);
        checks.due("setThreshold(1000)", cache.setThreshold(1000), 1);
        checks.due("setThreshold(20)", cache.setThreshold(20), 1000);
        checks.same("the cache", Checks.state(cache), before);
        checks.due("fetch(1, 21, 1, 5)", cache.fetch(1, 21, 1, 5), WorthCache.KEPT_OUT);
        checks.due("fetch(2, 20, 1, 5)", cache.fetch(2, 20, 1, 5), WorthCache.LET_IN);
        checks.due("setThreshold(21)", cache.setThreshold(21), 20);
        checks.due("fetch(3, 21, 1, 5)", cache.fetch(3, 21, 1, 5), WorthCache.LET_IN);
    }

    private static void thresholdRefused(Checks checks) {
        WorthCache cache = Checks.fullOfAll();
        cache.setThreshold(7);
        int[] wrong = {0, 1001, -1, Integer.MIN_VALUE, Integer.MAX_VALUE};
        for (int to : wrong) {
            String name = "setThreshold(" + to + ")";
            checks.refused(cache, IllegalArgumentException.class, name, () -> cache.setThreshold(to));
        }
        checks.due("setThreshold(8)", cache.setThreshold(8), 7);
    }
}
