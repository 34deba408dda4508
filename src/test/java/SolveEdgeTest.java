/** The boundary cases of promises 10 and 11, a test for each sentence of the document that names one. */
public final class SolveEdgeTest {
    private static final Check CHECK = new Check();

    private SolveEdgeTest() {
    }

    public static void main(String[] args) {
        range();
        noSteps();
        justTheSteps();
        justAllSteps();
        oneStepTooMuch();
        withoutPersons();
        withoutDays();
        frozenOnesAsTheyAre();
        allFrozen();
        ruleUpToThisDay();
        barOfEachShift();
        needBehindTheLastPerson();
        needOfTheLastDay();
        sumNotBelow();
        sumUpToThere();
        noneFound();
        stoppedBehindOne();
        unknownWhat();
        beforeTheFirst();
        ofTheLatest();
        CHECK.end("SolveEdgeTest");
    }

    private static void told(String what, RosterSolve x, int exact, int steps, int rosters) {
        CHECK.due(what + ": exact", x.solved(0), exact);
        CHECK.due(what + ": steps", x.solved(1), steps);
        CHECK.due(what + ": right rosters", x.solved(2), rosters);
    }

    // Promise 10. "Range: steps are not 0 .. 20,000."
    private static void range() {
        for (int steps : Check.outside(0, 20000)) {
            CHECK.range("new: solve(" + steps + ")", Start::fresh, x -> x.solve(steps));
            CHECK.range("some: solve(" + steps + ")", Start::some, x -> x.solve(steps));
            CHECK.range("frozen: solve(" + steps + ")", Start::frozen, x -> x.solve(steps));
            CHECK.range("full: solve(" + steps + ")", Start::full, x -> x.solve(steps));
        }
        RosterSolve x = Check.made(1, 1);
        CHECK.due("solve(0)", x.solve(0), -1);
        CHECK.due("solve(20000)", x.solve(20000), 0);
    }

    // Terms: "When the steps are used up ahead of a try the search stops."

    private static void noSteps() {
        RosterSolve x = Check.made(7, 6);
        x.set(5, 6, 3);
        CHECK.due("no steps", x.solve(0), -1);
        told("no steps", x, 0, 0, 0);
        CHECK.due("no steps: the roster stays", x.shift(5, 6), 3);
    }

    private static void justTheSteps() {
        RosterSolve x = Check.made(7, 6);
        CHECK.due("41 of 42 cells", x.solve(41), -1);
        told("41 of 42 cells", x, 0, 41, 0);
        CHECK.due("42 of 42 cells", x.solve(42), 0);
        told("42 of 42 cells", x, 0, 42, 1);
        CHECK.due("all tries but the last", x.solve(167), 0);
        told("all tries but the last", x, 0, 167, 1);
        CHECK.due("all tries", x.solve(168), 0);
        told("all tries", x, 1, 168, 1);
        CHECK.due("more steps than tries", x.solve(169), 0);
        told("more steps than tries", x, 1, 168, 1);
    }

    /** In the order of the search, how many shifts each cell's person is not barred from. */
    private static void leave(RosterSolve x, int firstDay, int[] shifts) {
        int persons = x.count(0);
        for (int i = 0; i < shifts.length; i++) {
            for (int shift = shifts[i]; shift <= 3; shift++) {
                x.bar(i % persons, firstDay + i / persons, shift, true);
            }
        }
    }

    /** One of the two is always unmet, so that the first roster found is the last, but only the last cell tells. */
    private static void wishBothWays(RosterSolve x, int person, int day) {
        x.wish(person, day, 0, true, 1);
        x.wish(person, day, 0, false, 1);
    }

    private static void justAllSteps() {
        RosterSolve x = Check.made(3, 3);
        x.rules(0, 7, 7);
        leave(x, 0, new int[] {1, 3, 3, 2, 4, 4, 4, 3, 1});
        wishBothWays(x, 2, 2);
        // 4 * (1 + 1 + 3 + 9 + 18 + 72 + 288 + 1152 + 3456) tries.
        CHECK.due("20,000 tries", x.solve(20000), 1);
        told("20,000 tries", x, 1, 20000, 1);
        CHECK.due("20,000 tries, a step too few", x.solve(19999), 1);
        told("20,000 tries, a step too few", x, 0, 19999, 1);
    }

    private static void oneStepTooMuch() {
        RosterSolve x = Check.made(3, 5);
        x.rules(0, 7, 7);
        x.freeze(1);
        leave(x, 1, new int[] {3, 3, 2, 4, 4, 4, 1, 1, 1, 4});
        wishBothWays(x, 4, 2);
        // 5 tries of what is frozen, and 4 * (1 + 3 + 9 + 18 + 72 + 288 + 4 * 1152) others.
        CHECK.due("20,001 tries", x.solve(20000), 1);
        told("20,001 tries", x, 0, 20000, 1);
    }

    // Terms: "Without persons or days there is one roster, and no try; it is right when all needs are met."

    private static void withoutPersons() {
        RosterSolve x = Check.made(7, 0);
        CHECK.due("no persons", x.solve(0), 0);
        told("no persons", x, 1, 0, 1);
        x.need(0, 1, 0, 0);
        x.freeze(7);
        CHECK.due("no persons, a need of nobody", x.solve(20000), 0);
        told("no persons, a need of nobody", x, 1, 0, 1);
        x.need(6, 3, 1, 0);
        CHECK.due("no persons, the last need", x.solve(20000), -1);
        told("no persons, the last need", x, 1, 0, 0);
        x.need(6, 3, 0, 0);
        x.need(0, 1, 0, 8);
        CHECK.due("no persons, the need of a skill", x.solve(0), -1);
        told("no persons, the need of a skill", x, 1, 0, 0);
    }

    private static void withoutDays() {
        RosterSolve x = Check.made(0, 6);
        x.rules(24, 0, 0);
        CHECK.due("no days", x.solve(0), 0);
        told("no days", x, 1, 0, 1);
        CHECK.due("nothing at all", new RosterSolve().solve(20000), 0);
    }

    // Terms: "(frozen ones: the one that is); each try takes a step."

    private static void frozenOnesAsTheyAre() {
        RosterSolve x = Check.made(2, 2);
        Check.give(x, 0, "31");
        Check.give(x, 1, "12");
        x.freeze(1);
        CHECK.due("a frozen day", x.solve(20000), 0);
        told("a frozen day", x, 1, 2 + 8, 1);
        CHECK.due("a frozen day stays", Check.shifts(x), "30 10");
        CHECK.due("a step for each frozen one", x.solve(4), 0);
        told("a step for each frozen one", x, 0, 4, 1);
        CHECK.due("a step too few", x.solve(3), -1);
        told("a step too few", x, 0, 3, 0);
    }

    private static void allFrozen() {
        RosterSolve x = Check.made(7, 6);
        x.set(0, 0, 2);
        x.set(5, 6, 3);
        x.freeze(7);
        CHECK.due("all frozen, a step too few", x.solve(41), -1);
        told("all frozen, a step too few", x, 0, 41, 0);
        CHECK.due("all frozen", x.solve(42), 0);
        told("all frozen", x, 1, 42, 1);
        CHECK.due("all frozen: the first", x.shift(0, 0), 2);
        CHECK.due("all frozen: the last", x.shift(5, 6), 3);
        x.bar(5, 6, 3, true);
        CHECK.due("all frozen, the last is barred", x.solve(42), -1);
        told("all frozen, the last is barred", x, 1, 42, 0);
        x.bar(0, 0, 2, true);
        CHECK.due("all frozen, the first is barred", x.solve(42), -1);
        told("all frozen, the first is barred", x, 1, 1, 0);
    }

    // Terms: "A try is given up at once when, for the person up to this day, a rule is broken or the shift is barred".

    private static void ruleUpToThisDay() {
        RosterSolve x = Check.made(2, 1);
        x.need(0, 3, 1, 0);
        x.need(1, 1, 1, 0);
        CHECK.due("a night, then early, under a rest of 11", x.solve(20000), -1);
        x.rules(1, 7, 7);
        CHECK.due("under a rest of 1", x.solve(20000), -1);
        told("under a rest of 1", x, 1, 8, 0);
        x.rules(0, 7, 7);
        CHECK.due("under a rest of 0", x.solve(20000), 0);
        x.rules(0, 2, 1);
        CHECK.due("as many shifts and nights as may be", x.solve(20000), 0);
        CHECK.due("as many shifts and nights as may be", Check.shifts(x), "31");
        x.rules(0, 1, 1);
        CHECK.due("a shift too much", x.solve(20000), -1);
        told("a shift too much", x, 1, 8, 0);
        x.rules(0, 2, 0);
        CHECK.due("a night too much", x.solve(20000), -1);
        told("a night too much", x, 1, 4, 0);
        x.need(1, 1, 0, 0);
        x.need(1, 3, 1, 0);
        x.rules(24, 2, 2);
        CHECK.due("16 hours under a rest of 24", x.solve(20000), -1);
        x.rules(16, 2, 2);
        CHECK.due("16 hours under a rest of 16", x.solve(20000), 0);
        x.rules(16, 2, 1);
        CHECK.due("two nights in a row", x.solve(20000), -1);
        told("two nights in a row", x, 1, 8, 0);
    }

    private static void barOfEachShift() {
        for (int shift = 1; shift <= 3; shift++) {
            RosterSolve x = Check.made(7, 6);
            x.need(6, shift, 1, 0);
            x.freeze(6);
            CHECK.due("shift " + shift + " for the last person", x.solve(20000), 0);
            CHECK.due("shift " + shift + " for the last person", x.shift(5, 6), shift);
            x.bar(5, 6, shift, true);
            CHECK.due("shift " + shift + ", the last person barred", x.solve(20000), 0);
            CHECK.due("shift " + shift + ", the last person barred", x.shift(4, 6), shift);
            for (int person = 0; person < 5; person++) {
                x.bar(person, 6, shift, true);
            }
            CHECK.due("shift " + shift + ", all barred", x.solve(20000), -1);
            // 36 frozen ones; then three shifts are left for each person: 4 * (1 + 3 + 9 + 27 + 81 + 243).
            told("shift " + shift + ", all barred", x, 1, 36 + 1456, 0);
        }
    }

    // Terms: "when, behind a day's last person, a need of the day is not met".

    private static void needBehindTheLastPerson() {
        RosterSolve x = Check.made(2, 2);
        x.need(0, 1, 2, 0);
        // Off for person 0 is not given up yet; the need is judged behind person 1, and not behind day 1.
        CHECK.due("a need of day 0", x.solve(20000), 0);
        told("a need of day 0", x, 1, 4 + 2 * 4 + 8, 1);
        CHECK.due("a need of day 0", Check.shifts(x), "10 10");
        x.need(0, 1, 3, 0);
        CHECK.due("more than there are", x.solve(20000), -1);
        told("more than there are", x, 1, 4 + 4 * 4, 0);
    }

    private static void needOfTheLastDay() {
        RosterSolve x = Check.made(7, 1);
        x.need(6, 3, 1, 0);
        CHECK.due("a need of the last day", x.solve(10), 0);
        told("a need of the last day", x, 0, 10, 1);
        CHECK.due("a need of the last day", Check.shifts(x), "0000003");
        CHECK.due("a need of the last day, a step too few", x.solve(9), -1);
        told("a need of the last day, a step too few", x, 0, 9, 0);
        x.need(6, 3, 0, 1);
        CHECK.due("a skill that nobody has", x.solve(20000), -1);
        x.need(6, 3, 0, 0);
        x.need(0, 1, 0, 0);
        CHECK.due("needs of nobody", x.solve(7), 0);
        told("needs of nobody", x, 0, 7, 1);
    }

    // Terms: "the unmet sum .. is not below the best right roster's so far".

    private static void sumNotBelow() {
        RosterSolve x = Check.made(1, 1);
        x.wish(0, 0, 0, false, 2);
        x.wish(0, 0, 1, false, 2);
        x.wish(0, 0, 2, false, 1);
        x.wish(0, 0, 3, false, 1);
        CHECK.due("as much is not below, one less is", x.solve(20000), 1);
        told("as much is not below, one less is", x, 1, 4, 2);
        CHECK.due("the first of those that are as good", x.shift(0, 0), 2);
        RosterSolve y = Check.made(1, 1);
        for (int number = 0; number < 20; number++) {
            y.wish(0, 0, 3, true, 100);
        }
        y.bar(0, 0, 3, true);
        CHECK.due("the highest sum is found too", y.solve(20000), 2000);
        told("the highest sum is found too", y, 1, 4, 1);
    }

    private static void sumUpToThere() {
        RosterSolve x = Check.made(1, 2);
        x.wish(1, 0, 0, false, 5);
        x.wish(1, 0, 1, false, 5);
        x.wish(1, 0, 2, false, 5);
        x.wish(1, 0, 3, false, 5);
        // The first person's tries stand, as the wishes are about the second one; its tries are given up but the first.
        CHECK.due("wishes about a later person", x.solve(20000), 5);
        told("wishes about a later person", x, 1, 4 + 4 * 4, 1);
        x.wish(0, 0, 0, true, 5);
        // Now early, late and night of the first person come to 5 by themselves.
        CHECK.due("wishes about this person too", x.solve(20000), 5);
        told("wishes about this person too", x, 1, 4 + 4, 1);
    }

    // Promise 10. "-1 when no right roster was found (the roster stays)".
    private static void noneFound() {
        RosterSolve x = Check.made(2, 2);
        Check.give(x, 0, "31");
        Check.give(x, 1, "12");
        x.need(1, 3, 3, 0);
        x.wish(0, 1, 0, true, 9);
        CHECK.due("none found", x.solve(20000), -1);
        CHECK.due("none found: exact", x.solved(0), 1);
        CHECK.due("none found: right rosters", x.solved(2), 0);
        CHECK.due("none found: the roster stays", Check.shifts(x), "31 12");
        CHECK.due("none found: the unmet sum stays", x.unmet(), 9);
        CHECK.due("none found, stopped", x.solve(19), -1);
        told("none found, stopped", x, 0, 19, 0);
        CHECK.due("none found, stopped: the roster stays", Check.shifts(x), "31 12");
    }

    // Terms: "The best one found, if any, becomes the roster: EXACT when the search did not stop."
    private static void stoppedBehindOne() {
        RosterSolve x = Check.made(1, 1);
        x.set(0, 0, 2);
        x.wish(0, 0, 3, true, 100);
        CHECK.due("stopped behind the first", x.solve(1), 100);
        told("stopped behind the first", x, 0, 1, 1);
        CHECK.due("stopped behind the first: it is the roster", x.shift(0, 0), 0);
        CHECK.due("stopped ahead of the best", x.solve(3), 100);
        told("stopped ahead of the best", x, 0, 3, 1);
        CHECK.due("the best with the last step", x.solve(4), 0);
        told("the best with the last step", x, 1, 4, 2);
        CHECK.due("the best is the roster", x.shift(0, 0), 3);
    }

    // Promise 11. "Unknown: no such what."
    private static void unknownWhat() {
        for (int what : Check.outside(0, 2)) {
            CHECK.unknown("new: solved(" + what + ")", Start::fresh, x -> x.solved(what));
            CHECK.unknown("some: solved(" + what + ")", Start::some, x -> x.solved(what));
        }
    }

    // Promise 11. "0 before the first one".
    private static void beforeTheFirst() {
        told("new", new RosterSolve(), 0, 0, 0);
        RosterSolve x = Check.made(2, 2);
        told("before the first", x, 0, 0, 0);
        CHECK.refusedHere("a step below", x, y -> y.solve(-1), Check.RANGE);
        CHECK.refusedHere("a step above", x, y -> y.solve(20001), Check.RANGE);
        told("behind refused ones alone", x, 0, 0, 0);
    }

    // Promise 11. "Of the latest solve".
    private static void ofTheLatest() {
        RosterSolve x = Check.made(1, 2);
        x.solve(20000);
        told("the latest", x, 1, 8, 1);
        x.solve(1);
        told("the latest, stopped", x, 0, 1, 0);
        CHECK.refusedHere("a step above", x, y -> y.solve(20001), Check.RANGE);
        told("behind a refused one", x, 0, 1, 0);
        x.person(0, 0);
        x.set(0, 0, 1);
        told("behind other calls", x, 0, 1, 0);
        x.solve(12);
        told("the latest of three persons", x, 1, 12, 1);
    }
}
