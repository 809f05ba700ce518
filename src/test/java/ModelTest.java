/** Long mixed runs, in which the class must answer as the plain model does. */
final class ModelTest {
    private static final int RUNS = 600;
    private static final int CALLS = 512;

    private final Checks checks;
    private final WorthCache cache = new WorthCache();
    private final PlainModel model = new PlainModel();
    private final int things;
    private final int mostSize;
    private final int mostPrice;
    private final int mostLifetime;
    private long seed;

    private ModelTest(Checks checks, int run) {
        this.checks = checks;
        seed = run * 7919L + 17;
        things = 2 + pick(31);
        mostSize = run % 5 == 0 ? 1000 : 10 + pick(90);
        mostPrice = run % 3 == 0 ? 2 : run % 3 == 1 ? 20 : 1000;
        mostLifetime = run % 4 == 0 ? 10000 : 10 + pick(150);
    }

    static void run(Checks checks) {
        for (int run = 0; run < RUNS; run++) {
            ModelTest test = new ModelTest(checks, run);
            checks.test("mixed run " + run, test::runCalls);
        }
    }

    private void runCalls() {
        if (mostSize == 1000) {
            compare("setCapacity(3000)", () -> cache.setCapacity(3000), () -> model.setCapacity(3000));
        }
        for (int i = 1; i < CALLS; i++) {
            oneCall();
        }
    }

    /** A generator of its own, so that a run is the same on every machine. */
    private int pick(int below) {
        seed = seed * 6364136223846793005L + 1442695040888963407L;
        return (int) ((seed >>> 33) % below);
    }

    /** Mostly within the range, at times at its edges or just outside. */
    private int pickWithin(int least, int usualMost, int most) {
        int kind = pick(60);
        if (kind == 0) {
            return least - 1;
        }
        if (kind == 1) {
            return most + 1;
        }
        if (kind == 2) {
            return most;
        }
        return kind == 3 ? least : least + pick(Math.min(usualMost, most) - least + 1);
    }

    private void oneCall() {
        int kind = pick(100);
        int thing = pickWithin(0, things - 1, 31);
        if (kind < 55) {
            fetch(thing);
        } else if (kind < 67) {
            int ticks = pickWithin(1, 1 + mostLifetime / 8, kind == 66 ? 10000 : 60);
            compare("pass(" + ticks + ")", () -> cache.pass(ticks), () -> model.pass(ticks));
        } else if (kind < 77) {
            boolean to = pick(5) < 2;
            compare("pin(" + thing + ", " + to + ")", () -> cache.pin(thing, to), () -> model.pin(thing, to));
        } else if (kind < 80) {
            compare("drop(" + thing + ")", () -> cache.drop(thing), () -> model.drop(thing));
        } else if (kind < 82) {
            compare("purge()", cache::purge, model::purge);
        } else if (kind < 86) {
            int to = pickWithin(1, mostSize * 3, 10000);
            compare("setCapacity(" + to + ")", () -> cache.setCapacity(to), () -> model.setCapacity(to));
        } else if (kind < 90) {
            int to = pickWithin(1, mostSize, 1000);
            compare("setThreshold(" + to + ")", () -> cache.setThreshold(to), () -> model.setThreshold(to));
        } else if (kind < 96) {
            int size = pickWithin(1, mostSize, 1000);
            compare("wouldLeave(" + size + ")", () -> cache.wouldLeave(size), () -> model.wouldLeave(size));
        } else {
            int place = pickWithin(0, 8, 31);
            compare("leaving(" + place + ")", () -> cache.leaving(place), () -> model.leaving(place));
        }
    }

    private void fetch(int thing) {
        int size = pick(3) > 0 && thing >= 0 ? 1 + thing * 7 % mostSize : pickWithin(1, mostSize, 1000);
        int price = pickWithin(0, mostPrice, 1000);
        int lifetime = pickWithin(1, mostLifetime, 10000);
        String name = "fetch(" + thing + ", " + size + ", " + price + ", " + lifetime + ")";
        compare(name, () -> cache.fetch(thing, size, price, lifetime),
                () -> model.fetch(thing, size, price, lifetime));
    }

    private void compare(String name, Checks.Call ours, Checks.Call theirs) {
        checks.same("the answer of " + name, Checks.outcome(ours), Checks.outcome(theirs));
        checks.same("the cache after " + name, Checks.state(cache), model.state());
    }
}
