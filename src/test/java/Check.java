import java.util.LinkedHashMap;
import java.util.Map;
import java.util.function.Consumer;

/** Counts answers that are not as due and tells each; a test's main ends with end(). */
final class Check {
    interface Call {
        void run();
    }

    private final Map<String, Integer> checked = new LinkedHashMap<>();
    private final Map<String, Integer> wrong = new LinkedHashMap<>();
    private String sentence = "";

    /** Runs a part of a test; what it throws is told as wrong, and the other parts still run. */
    void test(Consumer<Check> part) {
        try {
            part.accept(this);
        } catch (RuntimeException e) {
            tell("the test was stopped by " + e);
        }
    }

    /** Names the document's sentence that the checks from here on hold the class to. */
    void sentence(String section, String text) {
        sentence = section + ", \"" + text + "\"";
        checked.putIfAbsent(sentence, 0);
    }

    void same(String what, Object got, Object due) {
        count();
        if (!got.equals(due)) {
            tell(what + " answered " + got + ", due is " + due);
        }
    }

    void isTrue(String what, boolean holds) {
        same(what, holds, true);
    }

    void accepts(String what, Call call) {
        count();
        try {
            call.run();
        } catch (RuntimeException e) {
            tell(what + " threw " + e + ", due is nothing");
        }
    }

    void refuses(String what, Class<? extends RuntimeException> due, Call call) {
        count();
        try {
            call.run();
        } catch (RuntimeException e) {
            if (e.getClass() != due) {
                tell(what + " threw " + e + ", due is " + due.getName());
            }
            return;
        }
        tell(what + " threw nothing, due is " + due.getName());
    }

    void noSuchSum(String what, Call call) {
        refuses(what, IndexOutOfBoundsException.class, call);
    }

    void illegal(String what, Call call) {
        refuses(what, IllegalArgumentException.class, call);
    }

    void tooLarge(String what, Call call) {
        refuses(what, IllegalStateException.class, call);
    }

    /** Fails a test, or a sentence of one, that checked nothing, too. */
    void end() {
        boolean failed = checked.isEmpty() || !wrong.isEmpty();
        for (Map.Entry<String, Integer> entry : checked.entrySet()) {
            int count = entry.getValue();
            int bad = wrong.getOrDefault(entry.getKey(), 0);
            failed |= count == 0;
            if (count == 0 || bad > 0 || !entry.getKey().isEmpty()) {
                System.out.println("     " + count + " checks, " + bad + " wrong: " + entry.getKey());
            }
        }
        if (failed) {
            System.exit(1);
        }
    }

    private void count() {
        checked.merge(sentence, 1, Integer::sum);
    }

    private void tell(String text) {
        if (wrong.merge(sentence, 1, Integer::sum) <= 10) {
            System.out.println((sentence.isEmpty() ? "" : sentence + ": ") + text);
        }
    }
}
