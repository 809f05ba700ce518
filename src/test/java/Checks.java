import java.util.Objects;

/** Counts the tests and holds the checks that they share. */
final class Checks {
    private int passed;
    private int failed;
    private String wrong;

    interface Call {
        Object answer();
    }

    void test(String name, Runnable body) {
        wrong = null;
        try {
            body.run();
        } catch (RuntimeException e) {
            note("threw " + e);
        }
        if (wrong == null) {
            passed++;
        } else {
            failed++;
            System.out.println("FAILED " + name + ": " + wrong);
        }
    }

    boolean report() {
        System.out.println(passed + " tests passed, " + failed + " tests failed");
        return failed == 0 && passed > 0;
    }

    /** Only the first wrong answer of a test is told: the later ones mostly follow from it. */
    private void note(String what) {
        if (wrong == null) {
            wrong = what;
        }
    }

    void due(String call, long got, long want) {
        if (got != want) {
            note(call + " answered " + got + ", due is " + want);
        }
    }

    void due(String call, boolean got, boolean want) {
        if (got != want) {
            note(call + " answered " + got + ", due is " + want);
        }
    }

    void same(String what, String got, String want) {
        if (!Objects.equals(got, want)) {
            note(what + " is\n" + got + "\nand should be\n" + want);
        }
    }

    /** Checks which exception a call throws, and that it changes nothing that can be asked. */
    void refused(WorthCache cache, Class<? extends RuntimeException> kind, String name, Call call) {
        String before = state(cache);
        String got = outcome(call);
        if (!got.equals("throws." + kind.getSimpleName())) {
            note(name + " gave " + got + ", due is " + kind.getSimpleName());
        }
        same("the state after the refused " + name, state(cache), before);
    }

    /** The exact class counts: a subclass is what the machine throws, not what the document says. */
    static String outcome(Call call) {
        try {
            return String.valueOf(call.answer());
        } catch (RuntimeException e) {
            return "throws." + e.getClass().getSimpleName();
        }
    }

    /** All that a cache answers without a change. */
    static String state(WorthCache cache) {
        StringBuilder text = new StringBuilder();
        for (int thing = 0; thing < 32; thing++) {
            if (cache.has(thing)) {
                text.append(thing).append(": size ").append(cache.sizeOf(thing));
                text.append(" frequency ").append(cache.frequencyOf(thing));
                text.append(" worth ").append(cache.worthOf(thing));
                text.append(" end ").append(cache.endOf(thing));
                text.append(" over ").append(cache.isOver(thing));
                text.append(" place ").append(cache.placeOf(thing)).append('\n');
            }
        }
        text.append("time ").append(cache.time()).append(" clock ").append(cache.clock());
        text.append(" capacity ").append(cache.capacity());
        text.append(" entries ").append(cache.entries()).append(" used ").append(cache.used());
        text.append(" hits ").append(cache.hits()).append(" misses ").append(cache.misses());
        text.append(" bytesHit ").append(cache.bytesHit()).append(" saved ").append(cache.saved());
        text.append(" paid ").append(cache.paid()).append(" left ").append(cache.left());
        text.append(" removedOver ").append(cache.removedOver());
        text.append(" endsFirst ").append(cache.endsFirst());
        return text.toString();
    }

    /** The order of leaving, as leaving tells it: things with a blank before each. */
    static String order(WorthCache cache) {
        StringBuilder text = new StringBuilder();
        for (int place = 0; place < 32; place++) {
            int at = place;
            String thing = outcome(() -> cache.leaving(at));
            if (thing.startsWith("throws.")) {
                return text.toString();
            }
            text.append(' ').append(thing);
        }
        return text.toString();
    }

    /** A cache of the first 32 things, each of size 1 and of its own number as price: full. */
    static WorthCache fullOfAll() {
        WorthCache cache = new WorthCache();
        cache.setCapacity(32);
        for (int thing = 0; thing < 32; thing++) {
            cache.fetch(thing, 1, thing, 1000);
        }
        return cache;
    }
}
