import java.util.function.Supplier;

/** Long mixed runs, in which the class must answer each call as the plain model does. */
final class ModelTest {
    private static final int RUNS = 3000;
    private static final int CALLS = 512;

    private final Checks checks;
    private final WorthCache cache = new WorthCache();
    private final PlainModel model = new PlainModel();
    private final int things;
    private final int mostSize;
    private final int mostPrice;
    private final int mostLifetime;
    private long seed;

    private ModelTest(Checks checks, int run) {
        this.checks = checks;
        seed = run * 7919L + 17;
        things = 2 + pick(31);
        mostSize = run % 5 == 0 ? 1000 : 10 + pick(90);
        mostPrice = run % 3 == 0 ? 2 : run % 3 == 1 ? 20 : 1000;
        mostLifetime = run % 4 == 0 ? 10000 : 10 + pick(150);
    }

    static void run(Checks checks) {
        for (int run = 0; run < RUNS; run++) {
            ModelTest test = new ModelTest(checks, run);
            checks.test("promises 1 to 30: mixed run " + run, test::runCalls);
        }
    }

    private void runCalls() {
        int first = mostSize == 1000 ? 3000 : 100;
        compare("setCapacity(" + first + ")", () -> cache.setCapacity(first), () -> model.setCapacity(first));
        for (int i = 1; i < CALLS; i++) {
            int kind = pick(100);
            if (kind < 35) {
                fetch();
            } else if (kind < 60) {
                happen(kind - 35);
            } else if (kind < 85) {
                askOfOne(pick(10));
            } else {
                ask(pick(13));
            }
        }
    }

    /** A generator of its own, so that a run is the same on every machine. */
    private int pick(int below) {
        seed = seed * 6364136223846793005L + 1442695040888963407L;
        return (int) ((seed >>> 33) % below);
    }

    /** Mostly within the range, at times at its edges or just outside. */
    private int pickWithin(int least, int usualMost, int most) {
        int kind = pick(60);
        if (kind == 0) {
            return least - 1;
        }
        if (kind == 1) {
            return most + 1;
        }
        if (kind == 2) {
            return most;
        }
        return kind == 3 ? least : least + pick(Math.min(usualMost, most) - least + 1);
    }

    private int pickThing() {
        return pickWithin(0, things - 1, 31);
    }

    private void fetch() {
        int thing = pickThing();
        int size = pick(3) > 0 && thing >= 0 ? 1 + thing * 7 % mostSize : pickWithin(1, mostSize, 1000);
        int price = pickWithin(0, mostPrice, 1000);
        int lifetime = pickWithin(1, mostLifetime, 10000);
        String name = "fetch(" + thing + ", " + size + ", " + price + ", " + lifetime + ")";
        compare(name, () -> cache.fetch(thing, size, price, lifetime),
                () -> model.fetch(thing, size, price, lifetime));
    }

    private void happen(int kind) {
        int thing = pickThing();
        if (kind < 9) {
            int ticks = pickWithin(1, 1 + mostLifetime / 8, kind == 0 ? 10000 : 60);
            compare("pass(" + ticks + ")", () -> cache.pass(ticks), () -> model.pass(ticks));
        } else if (kind < 16) {
            boolean to = pick(5) < 2;
            compare("pin(" + thing + ", " + to + ")", () -> cache.pin(thing, to), () -> model.pin(thing, to));
        } else if (kind < 18) {
            compare("drop(" + thing + ")", () -> cache.drop(thing), () -> model.drop(thing));
        } else if (kind < 19) {
            compare("purge()", cache::purge, model::purge);
        } else if (kind < 22) {
            int to = pickWithin(1, mostSize * 3, 10000);
            compare("setCapacity(" + to + ")", () -> cache.setCapacity(to), () -> model.setCapacity(to));
        } else {
            int to = pickWithin(1, mostSize, 1000);
            compare("setThreshold(" + to + ")", () -> cache.setThreshold(to), () -> model.setThreshold(to));
        }
    }

    private void askOfOne(int kind) {
        int thing = pickThing();
        String of = "(" + thing + ")";
        switch (kind) {
            case 0: compare("has" + of, () -> cache.has(thing), () -> model.has(thing)); break;
            case 1: compare("isOver" + of, () -> cache.isOver(thing), () -> model.isOver(thing)); break;
            case 2: compare("sizeOf" + of, () -> cache.sizeOf(thing), () -> model.sizeOf(thing)); break;
            case 3: compare("frequencyOf" + of, () -> cache.frequencyOf(thing), () -> model.frequencyOf(thing)); break;
            case 4: compare("worthOf" + of, () -> cache.worthOf(thing), () -> model.worthOf(thing)); break;
            case 5: compare("endOf" + of, () -> cache.endOf(thing), () -> model.endOf(thing)); break;
            case 6: compare("placeOf" + of, () -> cache.placeOf(thing), () -> model.placeOf(thing)); break;
            case 7: leaving(pickWithin(0, 8, 31)); break;
            default: wouldLeave(pickWithin(1, mostSize, 1000)); break;
        }
    }

    private void leaving(int place) {
        compare("leaving(" + place + ")", () -> cache.leaving(place), () -> model.leaving(place));
    }

    private void wouldLeave(int size) {
        compare("wouldLeave(" + size + ")", () -> cache.wouldLeave(size), () -> model.wouldLeave(size));
    }

    private void ask(int kind) {
        switch (kind) {
            case 0: compare("endsFirst()", cache::endsFirst, model::endsFirst); break;
            case 1: compare("time()", cache::time, () -> model.time); break;
            case 2: compare("clock()", cache::clock, () -> model.clock); break;
            case 3: compare("capacity()", cache::capacity, () -> model.capacity); break;
            case 4: compare("entries()", cache::entries, model.entries::size); break;
            case 5: compare("used()", cache::used, () -> PlainModel.sum(model.entries)); break;
            case 6: compare("hits()", cache::hits, () -> model.hits); break;
            case 7: compare("misses()", cache::misses, () -> model.misses); break;
            case 8: compare("bytesHit()", cache::bytesHit, () -> model.bytesHit); break;
            case 9: compare("saved()", cache::saved, () -> model.saved); break;
            case 10: compare("paid()", cache::paid, () -> model.paid); break;
            case 11: compare("left()", cache::left, () -> model.left); break;
            default: compare("removedOver()", cache::removedOver, () -> model.removedOver); break;
        }
    }

    private void compare(String name, Supplier<Object> ours, Supplier<Object> theirs) {
        checks.same("the answer of " + name, outcome(ours), outcome(theirs));
    }

    private static String outcome(Supplier<Object> call) {
        try {
            return String.valueOf(call.get());
        } catch (RuntimeException e) {
            return "throws." + e.getClass().getSimpleName();
        }
    }
}
