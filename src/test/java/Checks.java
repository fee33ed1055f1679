import java.util.function.Consumer;
import java.util.function.Supplier;

/** Counts what a test finds right and wrong. */
final class Checks {
    interface Call {
        void run();
    }

    static final Class<?> NO_INDEX = IndexOutOfBoundsException.class;
    static final Class<?> NO_ARGUMENT = IllegalArgumentException.class;
    static final Class<?> NO_STATE = IllegalStateException.class;

    private final String title;
    private String words = "";
    private int right;
    private int wrong;

    Checks(String title) {
        this.title = title;
    }

    /** The words of the document that the checks behind this rest on; SentencesTest looks for those that no test names. */
    void sentence(String sentence) {
        words = " [" + sentence + "]";
        yes("the document says so", !Document.isAtHand() || Document.says(sentence));
    }

    private void count(boolean isRight, String complaint) {
        if (isRight) {
            right++;
        } else {
            wrong++;
            System.out.println(title + ": " + complaint + words);
        }
    }

    void same(String what, long got, long due) {
        count(got == due, what + " answered " + got + ", due is " + due);
    }

    void same(String what, String got, String due) {
        count(got.equals(due), what + " answered " + got + ", due is " + due);
    }

    void yes(String what, boolean got) {
        same(what, got ? 1 : 0, 1);
    }

    void no(String what, boolean got) {
        same(what, got ? 1 : 0, 0);
    }

    /** The call throws just this exception (no kind of it that the machine throws), and what a glance sees stays. */
    void refused(ForkBridge x, String what, Class<?> due, Call call) {
        String before = Look.glance(x);
        throwing(what, due, call);
        same(what + " left", Look.glance(x), before);
    }

    void throwing(String what, Class<?> due, Call call) {
        Class<?> got = thrownBy(call);
        count(got == due, what + " threw " + got + ", due is " + due);
    }

    /** Of two objects that were made alike, the one that was called besides answers all as the other one does, then and later. */
    void unchanged(String what, Supplier<ForkBridge> made, Consumer<ForkBridge> call) {
        ForkBridge called = made.get();
        ForkBridge other = made.get();
        call.accept(called);
        same(what + " left", Look.all(called), Look.all(other));
        same(what + " left for later", Look.later(called), Look.later(other));
    }

    /** The call throws just this exception, and changes nothing, nor what later calls answer. */
    void refused(Supplier<ForkBridge> made, String what, Class<?> due, Consumer<ForkBridge> call) {
        unchanged(what, made, x -> throwing(what, due, () -> call.accept(x)));
    }

    static Class<?> thrownBy(Call call) {
        try {
            call.run();
        } catch (RuntimeException e) {
            return e.getClass();
        }
        return null;
    }

    void end() {
        System.out.println(title + ": " + right + " right, " + wrong + " wrong");
        if (wrong != 0 || right == 0) {
            System.exit(1);
        }
    }
}
