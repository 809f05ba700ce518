/** Promises 9 to 18: what is asked of the entries. */
final class EntriesTest {
    private static final int NONE = WorthCache.NONE;

    static void run(Checks checks) {
        checks.test("promises 9 to 14, 16: an empty cache", () -> empty(checks));
        checks.test("promises 9 to 14, 16: no such thing", () -> noSuchThing(checks));
        checks.test("promise 9: has", () -> has(checks));
        checks.test("promise 10: isOver", () -> isOver(checks));
        checks.test("promise 11: sizeOf", () -> sizeOf(checks));
        checks.test("promise 12: frequencyOf", () -> frequencyOf(checks));
        checks.test("promise 13: worthOf", () -> worthOf(checks));
        checks.test("promise 14: endOf", () -> endOf(checks));
        checks.test("promise 15: leaving", () -> leaving(checks));
        checks.test("promise 15: leaving, no such place", () -> leavingRefused(checks));
        checks.test("promise 16: placeOf", () -> placeOf(checks));
        checks.test("promises 15 and 16: the same worth", () -> sameWorth(checks));
        checks.test("promise 17: endsFirst", () -> endsFirst(checks));
        checks.test("promise 18: wouldLeave", () -> wouldLeave(checks));
        checks.test("promise 18: wouldLeave, pinned and over", () -> wouldLeavePinned(checks));
        checks.test("promise 18: wouldLeave asks nothing of the threshold", () -> wouldLeaveThreshold(checks));
        checks.test("promise 18: wouldLeave, refused", () -> wouldLeaveRefused(checks));
    }

    private static void empty(Checks checks) {
        WorthCache cache = new WorthCache();
        for (int thing = 0; thing < 32; thing++) {
            checks.due("has", cache.has(thing), false);
            checks.due("isOver", cache.isOver(thing), false);
            checks.due("sizeOf", cache.sizeOf(thing), 0);
            checks.due("frequencyOf", cache.frequencyOf(thing), 0);
            checks.due("worthOf", cache.worthOf(thing), NONE);
            checks.due("endOf", cache.endOf(thing), NONE);
            checks.due("placeOf", cache.placeOf(thing), NONE);
        }
    }

    private static void noSuchThing(Checks checks) {
        WorthCache cache = Checks.fullOfAll();
        Class<IndexOutOfBoundsException> due = IndexOutOfBoundsException.class;
        int[] wrong = {-1, 32, Integer.MIN_VALUE, Integer.MAX_VALUE};
        for (int thing : wrong) {
            checks.refused(cache, due, "has of " + thing, () -> cache.has(thing));
            checks.refused(cache, due, "isOver of " + thing, () -> cache.isOver(thing));
            checks.refused(cache, due, "sizeOf of " + thing, () -> cache.sizeOf(thing));
            checks.refused(cache, due, "frequencyOf of " + thing, () -> cache.frequencyOf(thing));
            checks.refused(cache, due, "worthOf of " + thing, () -> cache.worthOf(thing));
            checks.refused(cache, due, "endOf of " + thing, () -> cache.endOf(thing));
            checks.refused(cache, due, "placeOf of " + thing, () -> cache.placeOf(thing));
        }
    }

    private static void has(Checks checks) {
        WorthCache cache = new WorthCache();
        cache.fetch(0, 10, 1, 5);
        cache.fetch(31, 10, 1, 5);
        cache.pass(5);
        checks.due("has(0), over", cache.has(0), true);
        checks.due("has(31), over", cache.has(31), true);
        checks.due("has(1)", cache.has(1), false);
        cache.drop(31);
        checks.due("has(31), dropped", cache.has(31), false);
    }

    private static void isOver(Checks checks) {
        WorthCache cache = new WorthCache();
        cache.fetch(0, 10, 1, 5);
        cache.fetch(31, 10, 1, 6);
        cache.pin(0, true);
        cache.pass(4);
        checks.due("isOver(0) at 4", cache.isOver(0), false);
        cache.pass(1);
        checks.due("isOver(0) at 5", cache.isOver(0), true);
        checks.due("isOver(31) at 5", cache.isOver(31), false);
        cache.pass(1);
        checks.due("isOver(0) at 6", cache.isOver(0), true);
        checks.due("isOver(31) at 6", cache.isOver(31), true);
        checks.due("isOver(1)", cache.isOver(1), false);
        cache.drop(31);
        checks.due("isOver(31), dropped", cache.isOver(31), false);
    }

    private static void sizeOf(Checks checks) {
        WorthCache cache = new WorthCache();
        cache.setCapacity(2000);
        cache.fetch(0, 1, 1, 5);
        cache.fetch(31, 1000, 1, 5);
        cache.pass(5);
        checks.due("sizeOf(0)", cache.sizeOf(0), 1);
        checks.due("sizeOf(31)", cache.sizeOf(31), 1000);
        cache.drop(31);
        checks.due("sizeOf(31), dropped", cache.sizeOf(31), 0);
    }

    private static void frequencyOf(Checks checks) {
        WorthCache cache = new WorthCache();
        for (int i = 1; i <= 100; i++) {
            cache.fetch(31, 10, 1, 5);
            checks.due("frequencyOf(31)", cache.frequencyOf(31), i);
        }
        cache.pass(5);
        checks.due("frequencyOf(31), over", cache.frequencyOf(31), 100);
        cache.drop(31);
        checks.due("frequencyOf(31), dropped", cache.frequencyOf(31), 0);
    }

    private static void worthOf(Checks checks) {
        WorthCache cache = new WorthCache();
        long due = 0;
        for (int i = 1; i <= 500; i++) {
            cache.fetch(31, 1, 1000, 5);
            due += 1000000;
        }
        checks.due("worthOf(31)", cache.worthOf(31), due);
        cache.fetch(0, 100, 1, 5);
        checks.due("clock()", cache.clock(), 500000000);
        checks.due("worthOf(0)", cache.worthOf(0), 500000010);
        cache.pin(0, true);
        cache.pass(5);
        checks.due("worthOf(0), over and pinned", cache.worthOf(0), 500000010);
        checks.due("worthOf(31), gone", cache.worthOf(31), NONE);
    }

    private static void endOf(Checks checks) {
        WorthCache cache = new WorthCache();
        cache.pass(10000);
        cache.fetch(31, 10, 1, 10000);
        checks.due("endOf(31)", cache.endOf(31), 20000);
        cache.pass(10000);
        checks.due("endOf(31), over", cache.endOf(31), 20000);
        cache.purge();
        checks.due("endOf(31), gone", cache.endOf(31), NONE);
    }

    private static void leaving(Checks checks) {
        WorthCache cache = Checks.fullOfAll();
        for (int place = 0; place < 32; place++) {
            checks.due("leaving", cache.leaving(place), place);
        }
        cache.pin(0, true);
        cache.pin(10, true);
        checks.due("leaving(0)", cache.leaving(0), 1);
        checks.due("leaving(8)", cache.leaving(8), 9);
        checks.due("leaving(9)", cache.leaving(9), 11);
        checks.due("leaving(29)", cache.leaving(29), 31);
        cache.pass(1000);
        checks.due("leaving(0), over", cache.leaving(0), 1);
        checks.due("leaving(29), over", cache.leaving(29), 31);
    }

    private static void leavingRefused(Checks checks) {
        WorthCache cache = Checks.fullOfAll();
        WorthCache none = new WorthCache();
        WorthCache pinned = new WorthCache();
        pinned.fetch(0, 1, 1, 5);
        pinned.fetch(1, 1, 1, 5);
        pinned.pin(0, true);
        Class<IndexOutOfBoundsException> due = IndexOutOfBoundsException.class;
        int[] wrong = {-1, 32, Integer.MIN_VALUE, Integer.MAX_VALUE};
        for (int place : wrong) {
            checks.refused(cache, due, "leaving(" + place + ")", () -> cache.leaving(place));
            checks.refused(none, due, "leaving(" + place + "), empty", () -> none.leaving(place));
        }
        checks.refused(none, due, "leaving(0), empty", () -> none.leaving(0));
        checks.due("leaving(0)", pinned.leaving(0), 1);
        checks.refused(pinned, due, "leaving(1)", () -> pinned.leaving(1));
        pinned.pin(1, true);
        checks.refused(pinned, due, "leaving(0), all pinned", () -> pinned.leaving(0));
    }

    private static void placeOf(Checks checks) {
        WorthCache cache = Checks.fullOfAll();
        cache.pin(0, true);
        cache.drop(2);
        checks.due("placeOf(0), pinned", cache.placeOf(0), NONE);
        checks.due("placeOf(1)", cache.placeOf(1), 0);
        checks.due("placeOf(2), no entry", cache.placeOf(2), NONE);
        checks.due("placeOf(3)", cache.placeOf(3), 1);
        checks.due("placeOf(31)", cache.placeOf(31), 29);
        cache.fetch(1, 1, 1000, 5);
        checks.due("placeOf(1), hit", cache.placeOf(1), 29);
        checks.due("placeOf(3)", cache.placeOf(3), 0);
        cache.pass(1000);
        checks.due("placeOf(3), over", cache.placeOf(3), 0);
    }

    private static void sameWorth(Checks checks) {
        WorthCache cache = new WorthCache();
        cache.fetch(3, 10, 0, 50);
        cache.fetch(1, 20, 0, 50);
        cache.fetch(2, 30, 0, 50);
        checks.same("as let in", Checks.order(cache), " 3 1 2");
        cache.fetch(3, 10, 0, 50);
        checks.same("3 was hit", Checks.order(cache), " 1 2 3");
        cache.pass(1);
        cache.fetch(1, 21, 0, 50);
        checks.same("1 was let in again", Checks.order(cache), " 2 3 1");
        cache.pin(2, true);
        cache.pin(2, false);
        checks.same("2 was pinned for a while", Checks.order(cache), " 2 3 1");
        checks.due("placeOf(2)", cache.placeOf(2), 0);
        checks.due("placeOf(3)", cache.placeOf(3), 1);
        checks.due("placeOf(1)", cache.placeOf(1), 2);
    }

    private static void endsFirst(Checks checks) {
        WorthCache cache = new WorthCache();
        checks.due("endsFirst(), empty", cache.endsFirst(), NONE);
        cache.fetch(31, 10, 1, 9);
        checks.due("endsFirst()", cache.endsFirst(), 31);
        cache.fetch(20, 10, 1, 10);
        checks.due("endsFirst()", cache.endsFirst(), 31);
        cache.fetch(21, 10, 1, 9);
        checks.due("endsFirst(), two at 9", cache.endsFirst(), 21);
        cache.fetch(22, 10, 1, 9);
        checks.due("endsFirst(), three at 9", cache.endsFirst(), 21);
        cache.fetch(30, 10, 1, 8);
        cache.pin(30, true);
        cache.pass(8);
        checks.due("endsFirst(), over and pinned", cache.endsFirst(), 30);
        cache.fetch(0, 10, 1, 1);
        checks.due("endsFirst()", cache.endsFirst(), 30);
        cache.drop(30);
        checks.due("endsFirst(), four at 9", cache.endsFirst(), 0);
    }

    private static void wouldLeave(Checks checks) {
        WorthCache cache = Checks.fullOfAll();
        cache.setCapacity(35);
        String before = Checks.state(cache);
        checks.due("wouldLeave(1)", cache.wouldLeave(1), 0);
        checks.due("wouldLeave(3)", cache.wouldLeave(3), 0);
        checks.due("wouldLeave(4)", cache.wouldLeave(4), 1);
        checks.due("wouldLeave(34)", cache.wouldLeave(34), 31);
        checks.due("wouldLeave(35)", cache.wouldLeave(35), 32);
        checks.due("wouldLeave(36)", cache.wouldLeave(36), NONE);
        checks.due("wouldLeave(1000)", cache.wouldLeave(1000), NONE);
        checks.same("the cache", Checks.state(cache), before);
        WorthCache none = new WorthCache();
        checks.due("wouldLeave(100), empty", none.wouldLeave(100), 0);
        checks.due("wouldLeave(101), empty", none.wouldLeave(101), NONE);
        none.setCapacity(1000);
        checks.due("wouldLeave(1000), empty", none.wouldLeave(1000), 0);
    }

    private static void wouldLeavePinned(Checks checks) {
        WorthCache cache = new WorthCache();
        cache.fetch(0, 20, 0, 5);
        cache.fetch(1, 20, 1, 50);
        cache.fetch(2, 20, 0, 50);
        cache.fetch(3, 20, 2, 5);
        cache.fetch(4, 20, 3, 50);
        cache.pin(2, true);
        cache.pin(3, true);
        checks.due("wouldLeave(60) at 0", cache.wouldLeave(60), 3);
        checks.due("wouldLeave(61) at 0", cache.wouldLeave(61), NONE);
        cache.pass(5);
        String before = Checks.state(cache);
        checks.due("wouldLeave(40)", cache.wouldLeave(40), 0);
        checks.due("wouldLeave(41)", cache.wouldLeave(41), 1);
        checks.due("wouldLeave(60)", cache.wouldLeave(60), 1);
        checks.due("wouldLeave(61)", cache.wouldLeave(61), 2);
        checks.due("wouldLeave(80)", cache.wouldLeave(80), 2);
        checks.due("wouldLeave(81)", cache.wouldLeave(81), NONE);
        checks.same("the cache", Checks.state(cache), before);
        checks.due("fetch(5, 61, 1, 5)", cache.fetch(5, 61, 1, 5), WorthCache.LET_IN);
        checks.due("left()", cache.left(), 2);
    }

    private static void wouldLeaveThreshold(Checks checks) {
        WorthCache cache = new WorthCache();
        cache.setThreshold(1);
        checks.due("wouldLeave(50)", cache.wouldLeave(50), 0);
        checks.due("fetch(0, 50, 1, 5)", cache.fetch(0, 50, 1, 5), WorthCache.KEPT_OUT);
    }

    private static void wouldLeaveRefused(Checks checks) {
        WorthCache cache = Checks.fullOfAll();
        int[] wrong = {0, 1001, -1, Integer.MIN_VALUE, Integer.MAX_VALUE};
        for (int size : wrong) {
            String name = "wouldLeave(" + size + ")";
            checks.refused(cache, IllegalArgumentException.class, name, () -> cache.wouldLeave(size));
        }
    }
}
