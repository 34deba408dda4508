/** What the tests of the project share: answers that are due, and calls that must be refused. */
final class Check {
    private static final String UNKNOWN = "IllegalArgumentException";
    private static final String RANGE = "IndexOutOfBoundsException";
    private static final String STATE = "IllegalStateException";
    private static final String ROOM = "UnsupportedOperationException";
    private static final String ZERO = "ArithmeticException";

    private int checks = 0;
    private int wrong = 0;

    void due(String what, long got, long want) {
        checks++;
        if (got != want) {
            wrong++;
            System.out.println(what + " answered " + got + ", due is " + want);
        }
    }

    void due(String what, String got, String want) {
        checks++;
        if (!got.equals(want)) {
            wrong++;
            System.out.println(what + " answered " + got + ", due is " + want);
        }
    }

    void unknown(String what, RosterSolve x, Runnable call) {
        refused(what, x, call, UNKNOWN);
    }

    void range(String what, RosterSolve x, Runnable call) {
        refused(what, x, call, RANGE);
    }

    void state(String what, RosterSolve x, Runnable call) {
        refused(what, x, call, STATE);
    }

    void room(String what, RosterSolve x, Runnable call) {
        refused(what, x, call, ROOM);
    }

    void zero(String what, RosterSolve x, Runnable call) {
        refused(what, x, call, ZERO);
    }

    /** The calls must throw just this, and all that can be asked without a change must be answered as before. */
    private void refused(String what, RosterSolve x, Runnable call, String exception) {
        String before = look(x);
        String thrown = "nothing";
        try {
            call.run();
        } catch (RuntimeException e) {
            thrown = e.getClass().getSimpleName();
            // The machine's own exception of a division has the same class as the one that is due.
            due(what + " divides by zero", "/ by zero".equals(e.getMessage()) ? 1 : 0, 0);
        }
        due(what + " throws", thrown, exception);
        due("what can be seen after " + what, look(x), before);
    }

    static String look(RosterSolve x) {
        StringBuilder seen = new StringBuilder();
        for (int what = 0; what <= 4; what++) {
            seen.append("count ").append(x.count(what)).append(' ');
        }
        for (int what = 0; what <= 2; what++) {
            seen.append("solved ").append(x.solved(what)).append(' ');
        }
        seen.append("wrong ").append(x.wrong());
        seen.append(" unmet ").append(x.unmet());
        seen.append(" cost ").append(x.cost()).append(" shifts ").append(shifts(x));
        for (int person = 0; person < x.count(0) && x.cost() > 0; person++) {
            seen.append(" share ").append(x.share(person));
        }
        return seen.toString();
    }

    /** A word for each person, a figure for each day. */
    static String shifts(RosterSolve x) {
        StringBuilder seen = new StringBuilder();
        for (int person = 0; person < x.count(0); person++) {
            seen.append(person == 0 ? "" : " ");
            for (int day = 0; day < x.count(1); day++) {
                seen.append(x.shift(person, day));
            }
        }
        return seen.toString();
    }

    static RosterSolve made(int days, int persons) {
        RosterSolve x = new RosterSolve();
        x.days(days);
        for (int person = 0; person < persons; person++) {
            x.person(0, 0);
        }
        return x;
    }

    /** A figure for each day. */
    static void give(RosterSolve x, int person, String shifts) {
        for (int day = 0; day < shifts.length(); day++) {
            x.set(person, day, shifts.charAt(day) - '0');
        }
    }

    void end(String test) {
        System.out.println(test + ": " + checks + " checks, " + wrong + " wrong");
        if (wrong != 0 || checks == 0) {
            System.exit(1);
        }
    }
}
