import java.util.Objects;

/** Counts the tests and holds the checks that they share. */
final class Checks {
    private int passed;
    private int failed;
    private String wrong;

    void test(String name, Runnable body) {
        wrong = null;
        try {
            body.run();
        } catch (RuntimeException e) {
            note("threw " + e);
        }
        if (wrong == null) {
            passed++;
        } else {
            failed++;
            System.out.println("FAILED " + name + ": " + wrong);
        }
    }

    /** A test whose calls and answers are written as text; Script says how. */
    void script(String name, String calls) {
        test(name, () -> {
            String told = new Script().firstWrong(calls);
            if (told != null) {
                note(told);
            }
        });
    }

    boolean report() {
        System.out.println(passed + " tests passed, " + failed + " tests failed");
        return failed == 0 && passed > 0;
    }

    /** Only the first wrong answer of a test is told: the later ones mostly follow from it. */
    private void note(String what) {
        if (wrong == null) {
            wrong = what;
        }
    }

    void due(String call, long got, long want) {
        same("the answer of " + call, String.valueOf(got), String.valueOf(want));
    }

    void due(String call, boolean got, boolean want) {
        same("the answer of " + call, String.valueOf(got), String.valueOf(want));
    }

    void same(String what, String got, String want) {
        if (!Objects.equals(got, want)) {
            note(what + " is " + got + ", due is " + want);
        }
    }
}
