/** Promises 19 to 30: the accounts. */
final class AccountsTest {
    static void run(Checks checks) {
        checks.test("promise 19: time", () -> time(checks));
        checks.test("promise 20: clock", () -> clock(checks));
        checks.test("promise 21: capacity", () -> capacity(checks));
        checks.test("promise 22: entries", () -> entries(checks));
        checks.test("promise 23: used", () -> used(checks));
        checks.test("promises 24, 26, 27: what is hit", () -> hits(checks));
        checks.test("promises 25, 28: what is missed", () -> misses(checks));
        checks.test("promise 29: left", () -> left(checks));
        checks.test("promise 30: removedOver", () -> removedOver(checks));
        checks.test("promise 30: the thing's own entry", () -> ownOver(checks));
    }

    private static void time(Checks checks) {
        WorthCache cache = new WorthCache();
        checks.due("time()", cache.time(), 0);
        cache.pass(10);
        cache.fetch(0, 1, 1, 1);
        cache.purge();
        checks.due("time()", cache.time(), 10);
        for (int i = 0; i < 500; i++) {
            cache.pass(10000);
        }
        checks.due("time()", cache.time(), 5000010);
    }

    private static void clock(Checks checks) {
        WorthCache cache = new WorthCache();
        cache.fetch(0, 1, 1000, 5);
        cache.fetch(1, 100, 1, 5);
        checks.due("clock()", cache.clock(), 1000000);
        cache.drop(1);
        cache.pass(5);
        checks.due("clock(), after drop", cache.clock(), 1000000);
        cache.purge();
        checks.due("clock(), after purge", cache.clock(), 1000000);
        cache.setCapacity(1);
        for (int i = 0; i < 400; i++) {
            cache.fetch(i % 2, 1, 1000, 5);
            checks.due("clock(), after another", cache.clock(), 1000000 + i * 1000000L);
        }
    }

    private static void capacity(Checks checks) {
        WorthCache cache = new WorthCache();
        checks.due("capacity()", cache.capacity(), 100);
        cache.fetch(0, 60, 1, 5);
        checks.due("capacity()", cache.capacity(), 100);
        cache.setCapacity(50);
        checks.due("capacity()", cache.capacity(), 50);
    }

    private static void entries(Checks checks) {
        WorthCache cache = Checks.fullOfAll();
        checks.due("entries()", cache.entries(), 32);
        cache.pin(3, true);
        cache.pass(1000);
        checks.due("entries(), over", cache.entries(), 32);
        cache.drop(3);
        checks.due("entries()", cache.entries(), 31);
        cache.purge();
        checks.due("entries()", cache.entries(), 0);
    }

    private static void used(Checks checks) {
        WorthCache cache = new WorthCache();
        cache.fetch(0, 10, 1, 5);
        cache.fetch(1, 20, 1, 50);
        cache.fetch(31, 3, 1, 50);
        checks.due("used()", cache.used(), 33);
        cache.pin(1, true);
        cache.pass(5);
        checks.due("used(), over and pinned", cache.used(), 33);
        cache.purge();
        checks.due("used()", cache.used(), 23);
        cache.fetch(1, 20, 1, 50);
        checks.due("used(), hit", cache.used(), 23);
    }

    private static void hits(Checks checks) {
        WorthCache cache = new WorthCache();
        cache.fetch(0, 10, 7, 5);
        cache.fetch(1, 20, 8, 5);
        checks.due("hits()", cache.hits(), 0);
        checks.due("bytesHit()", cache.bytesHit(), 0);
        checks.due("saved()", cache.saved(), 0);
        cache.fetch(0, 10, 3, 5);
        cache.fetch(1, 20, 0, 5);
        cache.fetch(0, 10, 1000, 5);
        checks.due("hits()", cache.hits(), 3);
        checks.due("bytesHit()", cache.bytesHit(), 40);
        checks.due("saved()", cache.saved(), 1003);
        checks.due("misses()", cache.misses(), 2);
        checks.due("paid()", cache.paid(), 15);
    }

    private static void misses(Checks checks) {
        WorthCache cache = new WorthCache();
        cache.fetch(0, 10, 7, 5);
        cache.fetch(0, 11, 8, 5);
        cache.fetch(1, 101, 9, 5);
        cache.pass(5);
        cache.fetch(0, 11, 20, 5);
        cache.setThreshold(10);
        cache.fetch(2, 11, 100, 5);
        checks.due("misses()", cache.misses(), 5);
        checks.due("paid()", cache.paid(), 144);
        checks.due("hits()", cache.hits(), 0);
        checks.due("saved()", cache.saved(), 0);
        checks.due("bytesHit()", cache.bytesHit(), 0);
    }

    private static void left(Checks checks) {
        WorthCache cache = new WorthCache();
        for (int thing = 0; thing < 10; thing++) {
            cache.fetch(thing, 10, 1, 5);
        }
        cache.fetch(10, 11, 1, 50);
        checks.due("left(), by fetch", cache.left(), 2);
        cache.setCapacity(80);
        checks.due("left(), by setCapacity", cache.left(), 4);
        cache.drop(5);
        cache.fetch(6, 9, 1, 5);
        checks.due("left(), others went", cache.left(), 4);
        cache.pass(5);
        cache.purge();
        checks.due("left(), what is over went", cache.left(), 4);
        checks.due("removedOver()", cache.removedOver(), 5);
    }

    private static void removedOver(Checks checks) {
        WorthCache cache = new WorthCache();
        for (int thing = 0; thing < 10; thing++) {
            cache.fetch(thing, 10, 1, thing < 4 ? 5 : thing < 7 ? 10 : 15);
        }
        cache.pass(5);
        cache.drop(0);
        checks.due("removedOver(), one dropped", cache.removedOver(), 0);
        cache.fetch(10, 11, 1, 50);
        checks.due("removedOver(), by fetch", cache.removedOver(), 3);
        cache.pass(5);
        cache.setCapacity(50);
        checks.due("removedOver(), by setCapacity", cache.removedOver(), 6);
        cache.pass(5);
        checks.due("purge()", cache.purge(), 3);
        checks.due("removedOver(), by purge", cache.removedOver(), 9);
        checks.due("left()", cache.left(), 0);
    }

    private static void ownOver(Checks checks) {
        WorthCache cache = new WorthCache();
        cache.fetch(0, 10, 1, 5);
        cache.fetch(1, 10, 1, 5);
        cache.fetch(2, 10, 1, 50);
        cache.pin(1, true);
        cache.pass(5);
        cache.fetch(0, 10, 1, 5);
        checks.due("removedOver(), same size", cache.removedOver(), 1);
        cache.fetch(1, 101, 1, 5);
        checks.due("removedOver(), another size, pinned, kept out", cache.removedOver(), 2);
        cache.fetch(2, 11, 1, 5);
        checks.due("removedOver(), not over", cache.removedOver(), 2);
    }
}
