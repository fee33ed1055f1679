import java.util.ArrayList;
import java.util.List;
import java.util.function.Supplier;

/** A call of the face, with what each argument may be; checks the least and the greatest, those beside them, and which exception is first. */
final class Range {
    interface Asked {
        long ask(ForkBridge x, int[] arguments);
    }

    private static final class Argument {
        final int below;
        final int least;
        final int greatest;
        final int above;
        final Class<?> due;

        Argument(int below, int least, int greatest, int above, Class<?> due) {
            this.below = below;
            this.least = least;
            this.greatest = greatest;
            this.above = above;
            this.due = due;
        }
    }

    /** No object is asked more often than this. */
    private static final int MOST_CALLS = 400;

    private final Checks checks;
    private final int promise;
    private final String name;
    private final Supplier<ForkBridge> open;
    private final int[] right;
    private final Asked asked;
    private final List<String> lines = new ArrayList<>();
    private final List<Argument> arguments = new ArrayList<>();

    /** In the object that open makes, the right arguments throw nothing. */
    Range(Checks checks, int promise, String name, Supplier<ForkBridge> open, int[] right, Asked asked) {
        this.checks = checks;
        this.promise = promise;
        this.name = name;
        this.open = open;
        this.right = right;
        this.asked = asked;
    }

    Range index(String line, int least, int greatest) {
        return index(line, least - 1, least, greatest, greatest + 1);
    }

    /** An index, of which the least and the greatest that there are cannot be taken by this call. */
    Range index(String line, int below, int least, int greatest, int above) {
        lines.add(line);
        arguments.add(new Argument(below, least, greatest, above, Checks.NO_INDEX));
        return this;
    }

    Range number(String line, int least, int greatest) {
        lines.add(line);
        arguments.add(new Argument(least - 1, least, greatest, greatest + 1, Checks.NO_ARGUMENT));
        return this;
    }

    /** The document has these lines for the promise, and no more. */
    Range says(String... more) {
        lines.addAll(List.of(more));
        if (Document.isAtHand()) {
            checks.same("lines of the promise " + promise, Document.linesOfPromise(promise).toString(), lines.toString());
        }
        return this;
    }

    private String of(int[] a) {
        return name + java.util.Arrays.toString(a);
    }

    private int[] with(int place, int number) {
        int[] a = right.clone();
        a[place] = number;
        return a;
    }

    private void taken(int[] a) {
        ForkBridge x = open.get();
        checks.throwing(of(a), null, () -> asked.ask(x, a));
    }

    private void refused(Supplier<ForkBridge> made, int[] a, Class<?> due) {
        checks.refused(made, of(a), due, x -> asked.ask(x, a));
    }

    Range check() {
        checks.same("arguments of " + name, arguments.size(), right.length);
        taken(right);
        for (int place = 0; place < right.length; place++) {
            taken(with(place, arguments.get(place).least));
            taken(with(place, arguments.get(place).greatest));
        }
        wrongOnes(open);
        return this;
    }

    /** In this object the right arguments throw an IllegalStateException; wrong ones throw what is listed ahead of that. */
    Range closed(Supplier<ForkBridge> made, int... a) {
        refused(made, a, Checks.NO_STATE);
        wrongOnes(made);
        return this;
    }

    private void wrongOnes(Supplier<ForkBridge> made) {
        for (int place = 0; place < right.length; place++) {
            Argument argument = arguments.get(place);
            for (int wrong : new int[] {argument.below, argument.above, Integer.MIN_VALUE, Integer.MAX_VALUE}) {
                refused(made, with(place, wrong), argument.due);
            }
        }
        severalWrong(made);
    }

    /** All ways to have some arguments right, some too low, and some too high: an index is listed ahead of other arguments. */
    private void severalWrong(Supplier<ForkBridge> made) {
        int ways = 1;
        for (int place = 0; place < right.length; place++) {
            ways *= 3;
        }
        ForkBridge x = made.get();
        for (int way = 1; way < ways; way++) {
            if (way % MOST_CALLS == 0) {
                x = made.get();
            }
            wrongInWay(x, way);
        }
    }

    private void wrongInWay(ForkBridge x, int way) {
        int[] a = right.clone();
        Class<?> due = Checks.NO_ARGUMENT;
        for (int place = 0, rest = way; place < a.length; place++, rest /= 3) {
            Argument argument = arguments.get(place);
            a[place] = rest % 3 == 0 ? a[place] : rest % 3 == 1 ? argument.below : argument.above;
            if (rest % 3 != 0 && argument.due == Checks.NO_INDEX) {
                due = Checks.NO_INDEX;
            }
        }
        checks.throwing(of(a), due, () -> asked.ask(x, a));
    }
}
