import java.util.ArrayList;
import java.util.List;

/**
 * Calls on a new cache, written as text, with the answer that is due, where it matters:
 *
 * <pre>
 * fetch(0, 10, 1, 5) = LET_IN
 * pass(0) = throws.IllegalArgumentException
 * 3 x fetch(0, 10, 1, 5) = HIT; pass(1)
 * all: has(#) = false
 * </pre>
 *
 * The calls of the third line are made three times, one behind the other, those of the fourth for
 * each thing, from 0 to 31. In the place of # stands the number of the round, and 0 again behind 31.
 * MIN and MAX are the least and the greatest int. A call without an answer must not throw.
 */
final class Script {
    private static final int MOST_CALLS = 512;
    private static final int THINGS = 32;

    private final WorthCache cache = new WorthCache();
    private int calls;

    /** Runs the calls; tells the first answer that is wrong, or null. */
    String firstWrong(String text) {
        for (String step : stepsOf(text)) {
            String[] parts = step.split(" = ");
            String got = answer(parts[0]);
            boolean isWrong = parts.length == 1 ? got.startsWith("throws.") : !got.equals(number(parts[1]));
            if (isWrong) {
                return step + ": call " + calls + " answered " + got;
            }
        }
        return null;
    }

    /** Runs the calls, and returns all their answers. */
    String answers(String text) {
        StringBuilder told = new StringBuilder();
        for (String step : stepsOf(text)) {
            told.append(step).append(" -> ").append(answer(step)).append('\n');
        }
        return told.toString();
    }

    private static List<String> stepsOf(String text) {
        List<String> steps = new ArrayList<>();
        for (String line : text.strip().split("\n")) {
            String[] parts = line.strip().split("(?<=^[0-9]{1,3}) x |(?<=^all): ");
            int times = parts.length == 1 ? 1 : parts[0].equals("all") ? THINGS : Integer.parseInt(parts[0]);
            for (int round = 0; round < times; round++) {
                String number = String.valueOf(round % THINGS);
                steps.addAll(List.of(parts[parts.length - 1].replace("#", number).split("; ")));
            }
        }
        return steps;
    }

    /** The name of the exact class counts: a subclass is what the machine throws, not the document. */
    String answer(String call) {
        calls++;
        if (calls > MOST_CALLS) {
            throw new IllegalStateException("the document promises nothing behind call " + MOST_CALLS);
        }
        try {
            return String.valueOf(made(call));
        } catch (RuntimeException e) {
            return "throws." + e.getClass().getSimpleName();
        }
    }

    private static String number(String written) {
        switch (written) {
            case "HIT": return String.valueOf(WorthCache.HIT);
            case "LET_IN": return String.valueOf(WorthCache.LET_IN);
            case "KEPT_OUT": return String.valueOf(WorthCache.KEPT_OUT);
            case "NONE": return String.valueOf(WorthCache.NONE);
            case "MIN": return String.valueOf(Integer.MIN_VALUE);
            case "MAX": return String.valueOf(Integer.MAX_VALUE);
            default: return written;
        }
    }

    /** A call that is written wrong is no answer of the cache: it ends the tests. */
    private static int told(String written) {
        String number = number(written);
        if (!number.matches("-?[0-9]+")) {
            throw new AssertionError("no number: " + written);
        }
        return Integer.parseInt(number);
    }

    private Object made(String call) {
        if (!call.matches("[a-zA-Z]+\\([^()]*\\)")) {
            throw new AssertionError("no call: " + call);
        }
        String name = call.substring(0, call.indexOf('('));
        String[] with = call.substring(call.indexOf('(') + 1, call.indexOf(')')).split(", ");
        if (with[0].isEmpty()) {
            return plain(name);
        }
        int first = told(with[0]);
        if (name.equals("fetch")) {
            return cache.fetch(first, told(with[1]), told(with[2]), told(with[3]));
        }
        return name.equals("pin") ? cache.pin(first, with[1].equals("true")) : ofOne(name, first);
    }

    private Object ofOne(String name, int told) {
        switch (name) {
            case "pass": return cache.pass(told);
            case "drop": return cache.drop(told);
            case "setCapacity": return cache.setCapacity(told);
            case "setThreshold": return cache.setThreshold(told);
            case "has": return cache.has(told);
            case "isOver": return cache.isOver(told);
            case "sizeOf": return cache.sizeOf(told);
            case "frequencyOf": return cache.frequencyOf(told);
            case "worthOf": return cache.worthOf(told);
            case "endOf": return cache.endOf(told);
            case "leaving": return cache.leaving(told);
            case "placeOf": return cache.placeOf(told);
            case "wouldLeave": return cache.wouldLeave(told);
            default: throw new AssertionError("no call: " + name);
        }
    }

    private Object plain(String name) {
        switch (name) {
            case "purge": return cache.purge();
            case "endsFirst": return cache.endsFirst();
            case "time": return cache.time();
            case "clock": return cache.clock();
            case "capacity": return cache.capacity();
            case "entries": return cache.entries();
            case "used": return cache.used();
            case "hits": return cache.hits();
            case "misses": return cache.misses();
            case "bytesHit": return cache.bytesHit();
            case "saved": return cache.saved();
            case "paid": return cache.paid();
            case "left": return cache.left();
            case "removedOver": return cache.removedOver();
            default: throw new AssertionError("no call: " + name);
        }
    }
}
