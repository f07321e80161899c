import java.util.Objects;
import java.util.concurrent.Callable;
import java.util.function.Supplier;

/** Counts what a test looked at, prints what was not as due, and ends the program by that. */
final class Checks {
    private final String test;
    private String beside = "";
    private int made;
    private int wrong;

    Checks(String test) {
        this.test = test;
    }

    /** What stands beside the checks that follow: a promise's number, and words of the document. */
    void beside(String words) {
        beside = words + ": ";
    }

    int made() {
        return made;
    }

    /** The answer of a call; the name of its exception behind throws. if it throws one. */
    static Object answer(Callable<?> call) {
        try {
            return call.call();
        } catch (Exception e) {
            return "throws." + e.getClass().getSimpleName();
        }
    }

    void same(String what, Object due, Object got) {
        made++;
        if (!Objects.equals(due, got)) {
            wrong++;
            System.out.println(test + ": " + beside + what + " answered " + got + ", due is " + due);
        }
    }

    void index(String what, Callable<?> call) {
        same(what, "throws.IndexOutOfBoundsException", answer(call));
    }

    void argument(String what, Callable<?> call) {
        same(what, "throws.IllegalArgumentException", answer(call));
    }

    void state(String what, Callable<?> call) {
        same(what, "throws.IllegalStateException", answer(call));
    }

    /** Makes the same bench twice, lets a call be refused on one, and asks whether one can tell it. */
    void refused(String what, String due, Supplier<Bench> recipe, BenchCall call) {
        Bench touched = recipe.get();
        same(what, "throws." + due, answer(() -> call.on(touched.desk)));
        same(what + ": what is kept then", recipe.get().state(), touched.state());
    }

    void finish() {
        System.out.println(test + ": " + (made - wrong) + " of " + made + " answers are as due");
        if (wrong > 0 || made == 0) {
            System.exit(1);
        }
    }

    interface BenchCall {
        Object on(BrailleDesk desk);
    }
}
