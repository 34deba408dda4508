/** Objects to start from, made anew each time and always alike; small enough for a Probe. */
final class Start {
    private Start() {
    }

    static RosterSolve fresh() {
        return new RosterSolve();
    }

    /** Persons 0 and 1, days 0 to 6, the first rules. */
    static RosterSolve week() {
        return Check.made(7, 2);
    }

    /** Persons 0 and 1, days 0 to 2, nothing frozen; each kind of thing has been told. */
    static RosterSolve some() {
        RosterSolve x = new RosterSolve();
        x.days(3);
        x.person(5, 100);
        x.person(2, 300);
        x.rules(10, 5, 2);
        Check.give(x, 0, "231");
        x.publish();
        x.need(0, 2, 1, 1);
        x.need(2, 1, 2, 2);
        x.bar(0, 1, 3, true);
        x.bar(1, 2, 2, true);
        x.wish(0, 1, 2, true, 7);
        x.wish(1, 2, 0, false, 30);
        x.solve(25);
        Check.give(x, 0, "210");
        Check.give(x, 1, "031");
        return x;
    }

    /** The same with day 0 frozen. */
    static RosterSolve frozen() {
        RosterSolve x = some();
        x.freeze(1);
        return x;
    }

    /** Persons 0 to 5 and 20 wishes on 2 days, day 0 frozen. */
    static RosterSolve full() {
        RosterSolve x = new RosterSolve();
        x.days(2);
        for (int person = 0; person < 6; person++) {
            x.person(15 - person, 10000 - person);
            x.set(person, 0, 1 + person % 3);
        }
        for (int number = 0; number < 20; number++) {
            x.wish(number % 6, number / 10, number % 4, number % 3 > 0, 100 - number);
        }
        x.freeze(1);
        return x;
    }
}
