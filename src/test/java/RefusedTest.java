import java.util.ArrayList;
import java.util.List;

/**
 * Which exception each call throws, that of several the first of its throws clause is thrown, and
 * that a refused call changes nothing: of two caches with the same calls behind them, one with the
 * refused call among them, all the other calls answer alike. So with a call that only asks.
 */
final class RefusedTest {
    private static final String NO_SUCH = "throws.IndexOutOfBoundsException";
    private static final String OUT_OF_RANGE = "throws.IllegalArgumentException";
    private static final String STATE = "throws.IllegalStateException";

    private static final String EMPTY = "setThreshold(20)";

    private static final String FULL = """
            setCapacity(32)
            setThreshold(20)
            all: fetch(#, 1, #, 99)
            """;

    /** Nothing is over, all that can be pinned is pinned. */
    private static final String PINNED = """
            setCapacity(32)
            setThreshold(20)
            all: fetch(#, 1, #, 99)
            all: pin(#, true)
            drop(9)
            """;

    /**
     * At the time 51, a clock of 50, a capacity of 220 and a threshold of 40: things 0 and 1 are in
     * and were hit, 2 is over, 3 is over and pinned, 4 is pinned, 5 and 6 are in, with the worth that
     * 1 and 2 have, 7 has left, 8 was dropped, 9 was removed because it was over, 10 was missed 51 ago
     * and 11 50 ago, and kept out.
     */
    private static final String MIXED = """
            fetch(7, 100, 5, 99)
            fetch(8, 100, 1, 99)
            drop(8)
            fetch(9, 10, 1, 1)
            setThreshold(40)
            fetch(10, 60, 1, 99)
            pass(1)
            purge()
            setCapacity(220)
            fetch(11, 60, 1, 99)
            fetch(0, 40, 4, 99)
            fetch(0, 40, 4, 99)
            fetch(1, 20, 3, 99)
            fetch(1, 20, 1, 99)
            fetch(2, 20, 2, 10)
            fetch(3, 20, 0, 50)
            pin(3, true)
            fetch(4, 30, 9, 51)
            pin(4, true)
            fetch(5, 10, 1, 60)
            fetch(6, 20, 2, 60)
            pass(50)
            """;

    /** All that can be asked without a change. */
    private static final String QUESTIONS = """
            all: has(#)
            all: isOver(#)
            all: sizeOf(#)
            all: frequencyOf(#)
            all: worthOf(#)
            all: endOf(#)
            all: placeOf(#)
            all: leaving(#)
            leaving(32)
            all: wouldLeave(#)
            all: wouldLeave(#0)
            endsFirst()
            time()
            clock()
            capacity()
            entries()
            used()
            hits()
            misses()
            bytesHit()
            saved()
            paid()
            left()
            removedOver()
            """;

    /** What is not asked but acts: the pins, the threshold, the misses before. */
    private static final String ACTS = """
            all: pin(#, false)
            all: fetch(#, 41, 1, 9); has(#)
            setThreshold(1000)
            all: fetch(#, 20, 0, 9); leaving(0)
            pass(9)
            setCapacity(50)
            purge()
            all: drop(#)
            clock()
            left()
            removedOver()
            """;

    /** What is told above, as answers. */
    private static final String TOLD = """
            time() = 51
            clock() = 50
            isOver(2) = true
            isOver(3) = true
            isOver(4) = false
            leaving(0) = 1
            leaving(1) = 2
            leaving(2) = 5
            leaving(3) = 6
            leaving(4) = 0
            pin(3, true) = true
            pin(4, true) = true
            removedOver() = 1
            left() = 1
            fetch(10, 41, 1, 1) = KEPT_OUT
            fetch(11, 41, 1, 1) = LET_IN
            setThreshold(1) = 40
            """;

    private static final String[] SETUPS = {EMPTY, FULL, PINNED, MIXED};
    private static final String[] NAMES = {"an empty cache", "a full cache", "a pinned cache", "a mixed cache"};

    private final List<String> calls = new ArrayList<>();
    private final List<String> dues = new ArrayList<>();
    private final List<String> promises = new ArrayList<>();

    static void run(Checks checks) {
        RefusedTest always = new RefusedTest();
        always.noSuchThing();
        always.outOfRange();
        always.severalApply();
        for (int i = 0; i < SETUPS.length; i++) {
            always.check(checks, SETUPS[i], NAMES[i]);
            asking(checks, SETUPS[i], NAMES[i]);
        }
        checks.script("promises 1 to 30: the mixed cache is as it is told", MIXED + TOLD);
        RefusedTest empty = new RefusedTest();
        empty.without(0, 31);
        empty.noPlace("-1", "0", "1", "31", "32", "MIN", "MAX");
        empty.check(checks, EMPTY, NAMES[0]);
        RefusedTest full = new RefusedTest();
        full.noPlace("-1", "32", "33", "MIN", "MAX");
        full.check(checks, FULL, NAMES[1]);
        RefusedTest pinned = new RefusedTest();
        pinned.without(9);
        pinned.noPlace("-1", "0", "1", "31", "32", "MIN", "MAX");
        pinned.refuse(7, STATE, "setCapacity(30)", "setCapacity(1)");
        pinned.check(checks, PINNED, NAMES[2]);
        RefusedTest mixed = new RefusedTest();
        mixed.without(7, 8, 9, 10, 11, 12, 31);
        mixed.noPlace("-1", "5", "6", "32", "MIN", "MAX");
        mixed.refuse(7, STATE, "setCapacity(29)", "setCapacity(1)");
        mixed.check(checks, MIXED, NAMES[3]);
    }

    private void refuse(int promise, String due, String... some) {
        for (String call : some) {
            promises.add("promise " + promise);
            dues.add(due);
            calls.add(call);
        }
    }

    private void noSuchThing() {
        for (String thing : new String[] {"-1", "32", "MIN", "MAX"}) {
            refuse(2, NO_SUCH, "fetch(" + thing + ", 1, 1, 1)");
            refuse(4, NO_SUCH, "pin(" + thing + ", true)", "pin(" + thing + ", false)");
            refuse(5, NO_SUCH, "drop(" + thing + ")");
            refuse(9, NO_SUCH, "has(" + thing + ")");
            refuse(10, NO_SUCH, "isOver(" + thing + ")");
            refuse(11, NO_SUCH, "sizeOf(" + thing + ")");
            refuse(12, NO_SUCH, "frequencyOf(" + thing + ")");
            refuse(13, NO_SUCH, "worthOf(" + thing + ")");
            refuse(14, NO_SUCH, "endOf(" + thing + ")");
            refuse(16, NO_SUCH, "placeOf(" + thing + ")");
        }
    }

    /** Of things with an entry that would be hit, with one that would go, and without one. */
    private void outOfRange() {
        for (String thing : new String[] {"0", "1", "10", "12", "31"}) {
            for (String size : new String[] {"0", "-1", "1001", "MIN", "MAX"}) {
                refuse(2, OUT_OF_RANGE, "fetch(" + thing + ", " + size + ", 1, 1)");
            }
            for (String price : new String[] {"-1", "1001", "MIN", "MAX"}) {
                refuse(2, OUT_OF_RANGE, "fetch(" + thing + ", 40, " + price + ", 1)");
                refuse(2, OUT_OF_RANGE, "fetch(" + thing + ", 1, " + price + ", 1)");
            }
            for (String lifetime : new String[] {"0", "-1", "10001", "MIN", "MAX"}) {
                refuse(2, OUT_OF_RANGE, "fetch(" + thing + ", 40, 1, " + lifetime + ")");
                refuse(2, OUT_OF_RANGE, "fetch(" + thing + ", 1, 1, " + lifetime + ")");
                refuse(2, OUT_OF_RANGE, "fetch(" + thing + ", 1000, 1, " + lifetime + ")");
            }
        }
        refuse(3, OUT_OF_RANGE, "pass(0)", "pass(-1)", "pass(10001)", "pass(MIN)", "pass(MAX)");
        refuse(7, OUT_OF_RANGE, "setCapacity(10001)", "setCapacity(MAX)");
        refuse(8, OUT_OF_RANGE, "setThreshold(0)", "setThreshold(-1)", "setThreshold(1001)");
        refuse(8, OUT_OF_RANGE, "setThreshold(MIN)", "setThreshold(MAX)");
        refuse(18, OUT_OF_RANGE, "wouldLeave(0)", "wouldLeave(-1)", "wouldLeave(1001)");
        refuse(18, OUT_OF_RANGE, "wouldLeave(MIN)", "wouldLeave(MAX)");
    }

    /**
     * The first of the throws clause: no such thing before a range, and a range before the pinned
     * entries, that a capacity of 0 or less is below where there are any. That no such thing has no
     * entry is told with the things, above.
     */
    private void severalApply() {
        refuse(2, NO_SUCH, "fetch(-1, 0, 1, 1)", "fetch(32, 1001, 1, 1)", "fetch(32, 1, -1, 1)");
        refuse(2, NO_SUCH, "fetch(-1, 1, 1001, 1)", "fetch(-1, 1, 1, 0)", "fetch(32, 1, 1, 10001)");
        refuse(2, NO_SUCH, "fetch(MIN, MIN, MIN, MIN)", "fetch(MAX, MAX, MAX, MAX)");
        refuse(2, OUT_OF_RANGE, "fetch(0, 0, -1, 0)", "fetch(31, 1001, 1001, 10001)");
        refuse(7, OUT_OF_RANGE, "setCapacity(0)", "setCapacity(-1)", "setCapacity(MIN)");
    }

    private void without(int... things) {
        for (int thing : things) {
            refuse(4, STATE, "pin(" + thing + ", true)", "pin(" + thing + ", false)");
            refuse(5, STATE, "drop(" + thing + ")");
        }
    }

    private void noPlace(String... places) {
        for (String place : places) {
            refuse(15, NO_SUCH, "leaving(" + place + ")");
        }
    }

    private void check(Checks checks, String setup, String where) {
        String answered = after(setup, "time()", QUESTIONS);
        String acted = after(setup, "time()", ACTS);
        for (int i = 0; i < calls.size(); i++) {
            String call = calls.get(i);
            String due = call + " -> " + dues.get(i) + "\n";
            checks.test(promises.get(i) + ": refused in " + where + ": " + call, () -> {
                checks.same("the answer", after(setup, "time()", call), due);
                checks.same("what is asked then", after(setup, call, QUESTIONS), answered);
                checks.same("what is done then", after(setup, call, ACTS), acted);
            });
        }
    }

    private static void asking(Checks checks, String setup, String where) {
        checks.script("promises 2 to 8: no call is refused on the way to " + where, setup);
        String acted = after(setup, "time()", ACTS);
        for (String question : QUESTIONS.strip().split("\n")) {
            checks.test("promises 9 to 30: no change in " + where + " by " + question,
                    () -> checks.same("what is done then", after(setup, question, ACTS), acted));
        }
    }

    private static String after(String setup, String call, String asked) {
        Script script = new Script();
        script.answers(setup);
        script.answers(call);
        return script.answers(asked);
    }
}
