import java.util.function.Consumer;
import java.util.function.Supplier;

/** What the tests of the project share: answers that are due, and calls that must be refused. */
final class Check {
    static final String UNKNOWN = "IllegalArgumentException";
    static final String RANGE = "IndexOutOfBoundsException";
    static final String STATE = "IllegalStateException";
    static final String ROOM = "UnsupportedOperationException";
    static final String ZERO = "ArithmeticException";

    private int checks = 0;
    private int wrong = 0;

    void due(String what, long got, long want) {
        checks++;
        if (got != want) {
            wrong++;
            System.out.println(what + " answered " + got + ", due is " + want);
        }
    }

    void due(String what, String got, String want) {
        checks++;
        if (!got.equals(want)) {
            wrong++;
            System.out.println(what + " answered " + got + ", due is " + want);
        }
    }

    void unknown(String what, Supplier<RosterSolve> start, Consumer<RosterSolve> call) {
        refused(what, start, call, UNKNOWN);
    }

    void range(String what, Supplier<RosterSolve> start, Consumer<RosterSolve> call) {
        refused(what, start, call, RANGE);
    }

    void state(String what, Supplier<RosterSolve> start, Consumer<RosterSolve> call) {
        refused(what, start, call, STATE);
    }

    void room(String what, Supplier<RosterSolve> start, Consumer<RosterSolve> call) {
        refused(what, start, call, ROOM);
    }

    void zero(String what, Supplier<RosterSolve> start, Consumer<RosterSolve> call) {
        refused(what, start, call, ZERO);
    }

    /** Of two objects that are made alike one is refused the call; then both must answer all later calls alike. */
    private void refused(String what, Supplier<RosterSolve> start, Consumer<RosterSolve> call, String exception) {
        RosterSolve x = start.get();
        due(what + " throws", thrown(x, call), exception);
        due("what later calls show behind " + what, Probe.of(x), Probe.of(start.get()));
    }

    /** For an object that goes on being used: the call is refused, and what can be seen at once stays. */
    void refusedHere(String what, RosterSolve x, Consumer<RosterSolve> call, String exception) {
        String before = shifts(x);
        due(what + " throws", thrown(x, call), exception);
        due("the shifts behind " + what, shifts(x), before);
    }

    static String thrown(RosterSolve x, Consumer<RosterSolve> call) {
        try {
            call.accept(x);
        } catch (RuntimeException e) {
            // The machine's own exception of a division has the same class as the one that the document names.
            return e.getClass().getSimpleName() + ("/ by zero".equals(e.getMessage()) ? " of the machine" : "");
        }
        return "nothing";
    }

    /** The numbers next to a range at both ends, and the farthest ones. */
    static int[] outside(int first, int last) {
        return new int[] {first - 1, last + 1, Integer.MIN_VALUE, Integer.MAX_VALUE};
    }

    /** A word for each person, a figure for each day. */
    static String shifts(RosterSolve x) {
        StringBuilder seen = new StringBuilder();
        int persons = x.count(0);
        int days = x.count(1);
        for (int person = 0; person < persons; person++) {
            seen.append(person == 0 ? "" : " ");
            for (int day = 0; day < days; day++) {
                seen.append(x.shift(person, day));
            }
        }
        return seen.toString();
    }

    static RosterSolve made(int days, int persons) {
        RosterSolve x = new RosterSolve();
        x.days(days);
        for (int person = 0; person < persons; person++) {
            x.person(0, 0);
        }
        return x;
    }

    /** A figure for each day. */
    static void give(RosterSolve x, int person, String shifts) {
        for (int day = 0; day < shifts.length(); day++) {
            x.set(person, day, shifts.charAt(day) - '0');
        }
    }

    void end(String test) {
        System.out.println(test + ": " + checks + " checks, " + wrong + " wrong");
        if (wrong != 0 || checks == 0) {
            System.exit(1);
        }
    }
}
