/** Promises 10 and 11: the search, its steps and what it tells. SolveEdgeTest has the boundary cases. */
public final class SolveTest {
    private static final Check CHECK = new Check();

    private SolveTest() {
    }

    public static void main(String[] args) {
        stepsOfOneCell();
        theBestSoFar();
        stepsRunOut();
        boundByWishes();
        needs();
        rests();
        mostAndNights();
        bars();
        frozenDays();
        frozenFaults();
        theRosterStays();
        aFullSize();
        CHECK.end("SolveTest");
    }

    private static void solves(String what, RosterSolve x, int steps, int answer) {
        CHECK.due(what + ": solve(" + steps + ")", x.solve(steps), answer);
        if (answer >= 0) {
            CHECK.due(what + ": what is found is right", x.wrong(), 0);
            CHECK.due(what + ": the unmet sum", x.unmet(), answer);
        }
    }

    private static void told(String what, RosterSolve x, int exact, int steps, int rosters) {
        CHECK.due(what + ": exact", x.solved(0), exact);
        CHECK.due(what + ": steps", x.solved(1), steps);
        CHECK.due(what + ": right rosters", x.solved(2), rosters);
    }

    private static void stepsOfOneCell() {
        RosterSolve x = Check.made(1, 1);
        solves("one cell", x, 20000, 0);
        told("one cell", x, 1, 4, 1);
        solves("one cell, just the steps", x, 4, 0);
        told("one cell, just the steps", x, 1, 4, 1);
        solves("one cell, a step too few", x, 3, 0);
        told("one cell, a step too few", x, 0, 3, 1);
        solves("one cell, one step", x, 1, 0);
        told("one cell, one step", x, 0, 1, 1);
        solves("one cell, no step", x, 0, -1);
        told("one cell, no step", x, 0, 0, 0);
    }

    private static void theBestSoFar() {
        RosterSolve x = Check.made(1, 1);
        x.wish(0, 0, 0, false, 9);
        x.wish(0, 0, 1, false, 6);
        x.wish(0, 0, 2, false, 6);
        x.wish(0, 0, 3, false, 2);
        solves("better and better", x, 20000, 2);
        told("better and better", x, 1, 4, 3);
        CHECK.due("the best one", Check.shifts(x), "3");
        solves("better, then stopped", x, 3, 6);
        told("better, then stopped", x, 0, 3, 2);
        CHECK.due("the first of two that are as good", Check.shifts(x), "1");
    }

    private static void stepsRunOut() {
        RosterSolve x = Check.made(2, 2);
        x.need(1, 1, 1, 0);
        solves("five steps lead to the end", x, 5, 0);
        told("five steps lead to the end", x, 0, 5, 1);
        CHECK.due("five steps", Check.shifts(x), "00 01");
        x.need(1, 1, 2, 0);
        // 3 tries of off, 4 of the last person; then early for the first one, off and early for the last.
        solves("nine steps are too few", x, 9, -1);
        told("nine steps are too few", x, 0, 9, 0);
        solves("ten steps are enough", x, 10, 0);
        CHECK.due("ten steps", Check.shifts(x), "01 01");
        told("ten steps are enough", x, 0, 10, 1);
    }

    private static void boundByWishes() {
        RosterSolve x = Check.made(1, 2);
        x.wish(0, 0, 1, true, 3);
        x.wish(1, 0, 2, true, 4);
        // Off: the second person's 4 tries come to 7 and to 3; early: to 4, which is given up, and to 0.
        solves("wishes of two", x, 20000, 0);
        told("wishes of two", x, 1, 12, 3);
        CHECK.due("wishes of two", Check.shifts(x), "1 2");
        x.wish(0, 0, 1, false, 1);
        solves("wishes that can't both be met", x, 20000, 1);
        // Off, early: 4 tries each; late and night come to 3, which is not below 1.
        told("wishes that can't both be met", x, 1, 12, 3);
    }

    private static void needs() {
        RosterSolve x = new RosterSolve();
        x.days(1);
        x.person(1, 0);
        x.person(2, 0);
        x.need(0, 2, 1, 2);
        solves("a skill", x, 20000, 0);
        CHECK.due("who has the skill", Check.shifts(x), "0 2");
        told("a skill", x, 1, 8, 1);
        x.need(0, 2, 2, 2);
        solves("two persons", x, 20000, 0);
        CHECK.due("two persons", Check.shifts(x), "2 2");
        x.need(0, 2, 3, 2);
        solves("three of two persons", x, 20000, -1);
        told("three of two persons", x, 1, 20, 0);
    }

    private static void rests() {
        int[][] hours = {{16, 24, 32}, {8, 16, 24}, {0, 8, 16}};
        for (int before = 1; before <= 3; before++) {
            for (int then = 1; then <= 3; then++) {
                for (int rest = 0; rest <= 24; rest++) {
                    RosterSolve x = Check.made(2, 1);
                    x.rules(rest, 7, 7);
                    x.need(0, before, 1, 0);
                    x.need(1, then, 1, 0);
                    boolean enough = hours[before - 1][then - 1] >= rest;
                    solves("rest " + rest + " from " + before + " to " + then, x, 20000, enough ? 0 : -1);
                    told("rest " + rest, x, 1, 8, enough ? 1 : 0);
                }
            }
        }
        RosterSolve x = Check.made(3, 1);
        x.rules(24, 7, 7);
        x.need(0, 3, 1, 0);
        x.need(2, 1, 1, 0);
        solves("a day off between", x, 20000, 0);
    }

    private static void mostAndNights() {
        RosterSolve x = Check.made(4, 1);
        x.need(0, 3, 1, 0);
        x.need(1, 3, 1, 0);
        x.need(3, 3, 1, 0);
        x.rules(0, 3, 2);
        solves("three shifts, two nights in a row", x, 20000, 0);
        CHECK.due("three nights", Check.shifts(x), "3303");
        x.rules(0, 2, 2);
        solves("a shift too much", x, 20000, -1);
        told("a shift too much", x, 1, 16, 0);
        x.rules(0, 3, 1);
        solves("a night too much", x, 20000, -1);
        told("a night too much", x, 1, 8, 0);
        x.rules(0, 0, 7);
        solves("no shifts at all", x, 20000, -1);
        told("no shifts at all", x, 1, 4, 0);
    }

    private static void bars() {
        RosterSolve x = Check.made(1, 2);
        x.need(0, 3, 1, 0);
        x.bar(1, 0, 3, true);
        solves("the other one is barred", x, 20000, 0);
        CHECK.due("the other one is barred", Check.shifts(x), "3 0");
        x.bar(0, 0, 3, true);
        solves("both are barred", x, 20000, -1);
        told("both are barred", x, 1, 16, 0);
    }

    private static void frozenDays() {
        RosterSolve x = Check.made(2, 1);
        x.wish(0, 0, 1, true, 10);
        x.set(0, 0, 3);
        x.set(0, 1, 3);
        x.freeze(1);
        solves("a frozen day", x, 20000, 10);
        told("a frozen day", x, 1, 5, 1);
        CHECK.due("a frozen day stays", Check.shifts(x), "30");
        x.need(1, 1, 1, 0);
        solves("the rest behind a frozen day", x, 20000, -1);
        x.need(1, 1, 0, 0);
        x.freeze(2);
        solves("all days frozen", x, 20000, 10);
        told("all days frozen", x, 1, 2, 1);
        solves("all days frozen, just the steps", x, 2, 10);
        told("all days frozen, just the steps", x, 1, 2, 1);
        solves("all days frozen, a step too few", x, 1, -1);
        told("all days frozen, a step too few", x, 0, 1, 0);
    }

    private static void frozenFaults() {
        RosterSolve x = Check.made(2, 1);
        x.set(0, 0, 2);
        x.freeze(1);
        x.bar(0, 0, 2, true);
        solves("a bar on a frozen day", x, 20000, -1);
        told("a bar on a frozen day", x, 1, 1, 0);
        x.bar(0, 0, 2, false);
        x.rules(0, 0, 7);
        solves("a shift too much on a frozen day", x, 20000, -1);
        told("a shift too much on a frozen day", x, 1, 1, 0);
        x.rules(0, 7, 7);
        x.need(0, 1, 1, 0);
        solves("a need on a frozen day", x, 20000, -1);
        told("a need on a frozen day", x, 1, 1, 0);
        CHECK.due("the frozen roster stays", Check.shifts(x), "20");
    }

    private static void theRosterStays() {
        RosterSolve x = Check.made(2, 2);
        Check.give(x, 0, "12");
        Check.give(x, 1, "31");
        x.need(1, 3, 3, 0);
        solves("nothing found", x, 20000, -1);
        CHECK.due("the roster stays", Check.shifts(x), "12 31");
        x.need(1, 3, 0, 0);
        solves("no step", x, 0, -1);
        CHECK.due("the roster stays without a step", Check.shifts(x), "12 31");
        solves("found", x, 4, 0);
        CHECK.due("the roster is the found one", Check.shifts(x), "00 00");
    }

    private static void aFullSize() {
        RosterSolve x = Check.made(7, 6);
        for (int day = 0; day < 7; day++) {
            x.need(day, 3, 6, 0);
        }
        // 4 + 16 + .. + 4,096 tries for day 0; behind a night only off and night stand,
        // so 4 * (1 + 2 + .. + 32) for each other day.
        solves("seven days of nights", x, 20000, 0);
        told("seven days of nights", x, 1, 5460 + 6 * 252, 1);
        solves("seven days of nights, just the steps", x, 6972, 0);
        told("seven days of nights, just the steps", x, 1, 6972, 1);
        solves("seven days of nights, a step too few", x, 6971, -1);
        told("seven days of nights, a step too few", x, 0, 6971, 0);
        RosterSolve y = Check.made(7, 6);
        solves("six persons, seven days", y, 20000, 0);
        told("six persons, seven days", y, 1, 4 * 42, 1);
        solves("six persons, seven days, just to the end", y, 42, 0);
        told("six persons, seven days, just to the end", y, 0, 42, 1);
        solves("six persons, seven days, a step too few", y, 41, -1);
        y.wish(5, 6, 0, true, 1);
        y.wish(5, 6, 0, false, 1);
        solves("a wish and its contrary on the last day", y, 20000, 1);
        told("a wish and its contrary on the last day", y, 0, 20000, 1);
        y.need(6, 1, 0, 1);
        solves("a skill that nobody has on the last day", y, 20000, -1);
        told("a skill that nobody has on the last day", y, 0, 20000, 0);
    }
}
