import java.util.List;
import java.util.function.Supplier;

/** The boundary cases of promises 1 to 9, a test for each sentence of the document that names one. */
public final class SetupEdgeTest {
    private static final Check CHECK = new Check();

    private SetupEdgeTest() {
    }

    public static void main(String[] args) {
        newObject();
        newObjectKnowsNobody();
        newObjectHasFirstRules();
        days();
        daysForgetTheFirstAndTheLast();
        person();
        need();
        needAtItsEnds();
        rules();
        rulesAtTheirEnds();
        bar();
        wish();
        wishOrder();
        wishAtItsEnds();
        freeze();
        set();
        setAtItsEnds();
        CHECK.end("SetupEdgeTest");
    }

    // Promise 1. "No persons, no days."

    private static void newObject() {
        RosterSolve x = new RosterSolve();
        for (int what = 0; what <= 4; what++) {
            CHECK.due("new: count(" + what + ")", x.count(what), 0);
        }
        for (int what = 0; what <= 2; what++) {
            CHECK.due("new: solved(" + what + ")", x.solved(what), 0);
        }
        CHECK.due("new: wrong()", x.wrong(), 0);
        CHECK.due("new: unmet()", x.unmet(), 0);
        CHECK.due("new: cost()", x.cost(), 0);
        CHECK.due("new: publish()", x.publish(), 0);
        CHECK.due("new: solve(0)", x.solve(0), 0);
        x.freeze(0);
        CHECK.due("new: the first person", x.person(0, 0), 0);
    }

    private static void newObjectKnowsNobody() {
        CHECK.unknown("new: need", Start::fresh, x -> x.need(0, 1, 0, 0));
        CHECK.unknown("new: bar", Start::fresh, x -> x.bar(0, 0, 1, true));
        CHECK.unknown("new: wish", Start::fresh, x -> x.wish(0, 0, 0, true, 1));
        CHECK.unknown("new: set", Start::fresh, x -> x.set(0, 0, 0));
        CHECK.unknown("new: swap", Start::fresh, x -> x.swap(0, 1, 0));
        CHECK.unknown("new: shift", Start::fresh, x -> x.shift(0, 0));
        CHECK.unknown("new: share", Start::fresh, x -> x.share(0));
        CHECK.range("new: freeze", Start::fresh, x -> x.freeze(1));
    }

    // Terms: REST "11 at first", MOST "7 at first", NIGHTS "7 at first".
    private static void newObjectHasFirstRules() {
        RosterSolve x = Check.made(7, 1);
        Check.give(x, 0, "3333333");
        CHECK.due("seven shifts, seven nights in a row, 16 hours of rest", x.wrong(), 0);
        Check.give(x, 0, "3200000");
        CHECK.due("8 hours of rest", x.wrong(), 201);
    }

    // Promise 2. "Range: they are not 0 .. 7."
    private static void days() {
        for (int d : Check.outside(0, 7)) {
            CHECK.range("new: days(" + d + ")", Start::fresh, x -> x.days(d));
            CHECK.range("some: days(" + d + ")", Start::some, x -> x.days(d));
            CHECK.range("full: days(" + d + ")", Start::full, x -> x.days(d));
        }
        RosterSolve x = Start.some();
        x.days(0);
        CHECK.due("days(0)", x.count(1), 0);
        CHECK.refusedHere("no day 0 of 0", x, y -> y.shift(0, 0), Check.UNKNOWN);
        x.days(7);
        CHECK.due("days(7)", x.count(1), 7);
        CHECK.due("day 6 of 7", x.shift(1, 6), 0);
        CHECK.refusedHere("no day 7 of 7", x, y -> y.shift(1, 7), Check.UNKNOWN);
        x.days(1);
        CHECK.due("day 0 of 1", x.shift(1, 0), 0);
        CHECK.refusedHere("no day 1 of 1", x, y -> y.shift(1, 1), Check.UNKNOWN);
    }

    // Promise 2. "all needs, wishes, bars and shifts are forgotten, nothing is frozen".
    private static void daysForgetTheFirstAndTheLast() {
        for (int d = 0; d <= 7; d++) {
            RosterSolve x = Check.made(7, 6);
            x.need(0, 1, 6, 15);
            x.need(6, 3, 6, 15);
            x.bar(0, 0, 1, true);
            x.bar(5, 6, 3, true);
            x.wish(0, 0, 1, false, 100);
            x.wish(5, 6, 3, false, 100);
            x.set(0, 0, 1);
            x.set(5, 6, 3);
            x.freeze(7);
            x.days(d);
            x.days(7);
            CHECK.due("frozen behind days(" + d + ")", x.count(3), 0);
            CHECK.due("the first shift behind days(" + d + ")", x.shift(0, 0), 0);
            CHECK.due("the last shift behind days(" + d + ")", x.shift(5, 6), 0);
            CHECK.due("needs behind days(" + d + ")", x.wrong(), 0);
            x.set(0, 0, 1);
            x.set(5, 6, 3);
            CHECK.due("bars behind days(" + d + ")", x.wrong(), 0);
            CHECK.due("wishes behind days(" + d + ")", x.unmet(), 0);
        }
    }

    // Promise 3. "Range: skills, rate; no room: there are 6."
    private static void person() {
        for (int skills : Check.outside(0, 15)) {
            CHECK.range("new: skills " + skills, Start::fresh, x -> x.person(skills, 0));
            CHECK.range("some: skills " + skills, Start::some, x -> x.person(skills, 10000));
            CHECK.range("range before room: skills " + skills, Start::full, x -> x.person(skills, 0));
        }
        for (int rate : Check.outside(0, 10000)) {
            CHECK.range("new: rate " + rate, Start::fresh, x -> x.person(0, rate));
            CHECK.range("some: rate " + rate, Start::some, x -> x.person(15, rate));
            CHECK.range("range before room: rate " + rate, Start::full, x -> x.person(0, rate));
        }
        CHECK.room("a seventh person", Start::full, x -> x.person(0, 0));
        CHECK.room("a seventh person with the highest numbers", Start::full, x -> x.person(15, 10000));
        personsAtTheirEnds();
    }

    private static void personsAtTheirEnds() {
        RosterSolve x = new RosterSolve();
        CHECK.due("a person without days", x.person(0, 0), 0);
        x.days(7);
        x.freeze(7);
        CHECK.due("a person behind a freeze", x.person(15, 10000), 1);
        for (int person = 2; person < 6; person++) {
            CHECK.due("a person", x.person(15, 10000), person);
        }
        String week = "0000000";
        CHECK.due("six persons are off on all days", Check.shifts(x),
            String.join(" ", week, week, week, week, week, week));
        CHECK.refusedHere("a seventh person", x, y -> y.person(0, 0), Check.ROOM);
        x.days(1);
        CHECK.refusedHere("days make no room for persons", x, y -> y.person(0, 0), Check.ROOM);
        x.set(0, 0, 1);
        CHECK.due("a rate of 0", x.cost(), 0);
        x.need(0, 1, 1, 1);
        CHECK.due("skills of 0", x.wrong(), 110);
        x.set(5, 0, 1);
        CHECK.due("a rate of 10,000", x.cost(), 80000);
        x.need(0, 1, 1, 15);
        CHECK.due("skills of 15", x.wrong(), 0);
    }

    // Promise 4. "Unknown: no such day or shift; range: persons, skills."

    private static void need() {
        CHECK.unknown("need without days", () -> Check.made(0, 2), x -> x.need(0, 1, 0, 0));
        for (int day : Check.outside(0, 2)) {
            CHECK.unknown("need on day " + day, Start::some, x -> x.need(day, 1, 0, 0));
            CHECK.unknown("unknown before persons: day " + day, Start::some, x -> x.need(day, 3, 7, 0));
            CHECK.unknown("unknown before skills: day " + day, Start::some, x -> x.need(day, 3, 0, -1));
        }
        for (int shift : Check.outside(1, 3)) {
            CHECK.unknown("need of shift " + shift, Start::some, x -> x.need(0, shift, 6, 15));
            CHECK.unknown("unknown before persons: shift " + shift, Start::some, x -> x.need(0, shift, -1, 0));
            CHECK.unknown("unknown before skills: shift " + shift, Start::some, x -> x.need(0, shift, 0, 16));
        }
        for (int persons : Check.outside(0, 6)) {
            CHECK.range("need of persons " + persons, Start::some, x -> x.need(2, 1, persons, 0));
        }
        for (int skills : Check.outside(0, 15)) {
            CHECK.range("need of skills " + skills, Start::some, x -> x.need(2, 1, 0, skills));
        }
    }

    private static void needAtItsEnds() {
        RosterSolve x = Check.made(7, 5);
        x.need(0, 1, 0, 0);
        x.need(6, 3, 0, 0);
        CHECK.due("a need of nobody", x.wrong(), 0);
        x.need(6, 3, 6, 0);
        CHECK.due("six of none", x.wrong(), 136);
        for (int person = 0; person < 5; person++) {
            x.set(person, 6, 3);
        }
        CHECK.due("six of five", x.wrong(), 136);
        x.need(6, 3, 5, 0);
        CHECK.due("five of five", x.wrong(), 0);
        x.need(6, 3, 6, 0);
        x.person(8, 0);
        x.set(5, 6, 3);
        CHECK.due("six of six", x.wrong(), 0);
        x.need(6, 3, 0, 8);
        CHECK.due("a skill that the last one has", x.wrong(), 0);
        x.need(6, 3, 0, 15);
        CHECK.due("all skills", x.wrong(), 136);
        x.need(6, 3, 0, 0);
        x.need(0, 1, 1, 0);
        CHECK.due("the first need", x.wrong(), 110);
        x.set(0, 0, 1);
        CHECK.due("the first need is met", x.wrong(), 0);
    }

    // Promise 5. "Range: they are not so."
    private static void rules() {
        for (int rest : Check.outside(0, 24)) {
            CHECK.range("rest " + rest, Start::some, x -> x.rules(rest, 0, 0));
            CHECK.range("new: rest " + rest, Start::week, x -> x.rules(rest, 1, 1));
        }
        for (int wrong : Check.outside(0, 7)) {
            CHECK.range("most " + wrong, Start::some, x -> x.rules(24, wrong, 0));
            CHECK.range("new: most " + wrong, Start::week, x -> x.rules(24, wrong, 1));
            CHECK.range("nights " + wrong, Start::some, x -> x.rules(24, 0, wrong));
            CHECK.range("new: nights " + wrong, Start::week, x -> x.rules(24, 1, wrong));
        }
        CHECK.range("all three too low", Start::some, x -> x.rules(-1, -1, -1));
        CHECK.range("all three too high", Start::some, x -> x.rules(25, 8, 8));
    }

    private static void rulesAtTheirEnds() {
        RosterSolve x = Check.made(7, 1);
        x.rules(0, 7, 7);
        Check.give(x, 0, "3100000");
        CHECK.due("a rest of 0", x.wrong(), 0);
        x.rules(1, 7, 7);
        CHECK.due("a rest of 1", x.wrong(), 201);
        x.rules(24, 7, 7);
        Check.give(x, 0, "1200000");
        CHECK.due("24 hours under a rest of 24", x.wrong(), 0);
        Check.give(x, 0, "1100000");
        CHECK.due("16 hours under a rest of 24", x.wrong(), 201);
        x.rules(16, 7, 7);
        CHECK.due("16 hours under a rest of 16", x.wrong(), 0);
        x.rules(17, 7, 7);
        CHECK.due("16 hours under a rest of 17", x.wrong(), 201);
        x.rules(0, 0, 7);
        Check.give(x, 0, "0000000");
        CHECK.due("no shift under a most of 0", x.wrong(), 0);
        x.set(0, 6, 1);
        CHECK.due("a shift under a most of 0", x.wrong(), 306);
        x.rules(0, 7, 0);
        CHECK.due("no night under nights of 0", x.wrong(), 0);
        x.set(0, 6, 3);
        CHECK.due("a night under nights of 0", x.wrong(), 406);
        Check.give(x, 0, "3333333");
        x.rules(0, 7, 7);
        CHECK.due("seven nights under nights of 7", x.wrong(), 0);
        x.rules(0, 6, 7);
        CHECK.due("seven shifts under a most of 6", x.wrong(), 306);
        x.rules(0, 7, 6);
        CHECK.due("seven nights under nights of 6", x.wrong(), 406);
    }

    // Promise 6. "A shift (1 .. 3)"; "Unknown: no such person, day or shift."
    private static void bar() {
        CHECK.unknown("bar without persons", () -> Check.made(3, 0), x -> x.bar(0, 0, 1, true));
        CHECK.unknown("bar without days", () -> Check.made(0, 2), x -> x.bar(0, 0, 1, true));
        for (int person : Check.outside(0, 1)) {
            CHECK.unknown("bar of person " + person, Start::some, x -> x.bar(person, 0, 1, true));
        }
        CHECK.unknown("bar of person 6 of 6", Start::full, x -> x.bar(6, 0, 1, true));
        for (int day : Check.outside(0, 2)) {
            CHECK.unknown("bar on day " + day, Start::some, x -> x.bar(0, day, 1, true));
        }
        CHECK.unknown("bar on day 7 of 7", Start::week, x -> x.bar(0, 7, 1, true));
        for (int shift : Check.outside(1, 3)) {
            CHECK.unknown("bar from shift " + shift, Start::some, x -> x.bar(0, 0, shift, true));
            CHECK.unknown("no bar from shift " + shift, Start::some, x -> x.bar(0, 1, shift, false));
        }
        RosterSolve x = Check.made(7, 6);
        x.bar(5, 6, 3, true);
        x.bar(0, 0, 1, true);
        x.set(5, 6, 3);
        CHECK.due("the last bar", x.wrong(), 556);
        x.set(0, 0, 1);
        CHECK.due("the first bar", x.wrong(), 500);
        x.bar(0, 0, 1, false);
        x.bar(5, 6, 3, false);
        CHECK.due("no bars any more", x.wrong(), 0);
        x.bar(0, 0, 1, false);
        CHECK.due("no bar where none was", x.wrong(), 0);
    }

    // Promise 7. "Unknown: no such person, day or shift; range: the weight; state: the day is frozen;
    // no room: there are 20."

    private static void wish() {
        CHECK.unknown("wish without persons", () -> Check.made(3, 0), x -> x.wish(0, 0, 1, true, 1));
        CHECK.unknown("wish without days", () -> Check.made(0, 2), x -> x.wish(0, 0, 1, true, 1));
        for (int person : Check.outside(0, 1)) {
            CHECK.unknown("wish of person " + person, Start::some, x -> x.wish(person, 0, 1, true, 1));
        }
        for (int day : Check.outside(0, 2)) {
            CHECK.unknown("wish on day " + day, Start::some, x -> x.wish(0, day, 1, true, 1));
        }
        for (int shift : Check.outside(0, 3)) {
            CHECK.unknown("wish for shift " + shift, Start::some, x -> x.wish(0, 0, shift, true, 1));
        }
        for (int weight : Check.outside(1, 100)) {
            CHECK.range("wish of weight " + weight, Start::some, x -> x.wish(0, 0, 1, true, weight));
            CHECK.range("wish against, of weight " + weight, Start::some, x -> x.wish(0, 0, 1, false, weight));
        }
        CHECK.state("wish on a frozen day", Start::frozen, x -> x.wish(0, 0, 1, true, 1));
        CHECK.state("wish on the last day, all frozen", SetupEdgeTest::allFrozen, x -> x.wish(1, 2, 0, false, 100));
        CHECK.room("a 21st wish", Start::full, x -> x.wish(0, 1, 1, true, 1));
    }

    private static RosterSolve allFrozen() {
        RosterSolve x = Start.some();
        x.freeze(3);
        return x;
    }

    /** Terms: "Refusals, in this order", where two or more hold at once. */
    private static void wishOrder() {
        CHECK.unknown("unknown before range: person", Start::some, x -> x.wish(2, 0, 1, true, 0));
        CHECK.unknown("unknown before range: day", Start::some, x -> x.wish(0, 3, 1, true, 101));
        CHECK.unknown("unknown before range: shift", Start::some, x -> x.wish(0, 0, 4, true, 0));
        CHECK.unknown("unknown before state: person", Start::frozen, x -> x.wish(-1, 0, 1, true, 1));
        CHECK.unknown("unknown before state: shift", Start::frozen, x -> x.wish(0, 0, -1, true, 1));
        // A day below 0 is below the frozen ones too.
        CHECK.unknown("unknown before state: day", Start::frozen, x -> x.wish(0, -1, 1, true, 1));
        CHECK.range("range before state", Start::frozen, x -> x.wish(0, 0, 1, true, 101));
        CHECK.unknown("unknown before room: person", Start::full, x -> x.wish(6, 1, 1, true, 1));
        CHECK.unknown("unknown before room: day", Start::full, x -> x.wish(0, 2, 1, true, 1));
        CHECK.unknown("unknown before room: shift", Start::full, x -> x.wish(0, 1, 4, true, 1));
        CHECK.range("range before room", Start::full, x -> x.wish(0, 1, 1, true, 0));
        CHECK.state("state before room", Start::full, x -> x.wish(0, 0, 1, true, 1));
        CHECK.range("range before state and room", Start::full, x -> x.wish(0, 0, 1, true, 0));
        CHECK.unknown("unknown before all others", Start::full, x -> x.wish(0, 0, 4, true, 0));
    }

    private static void wishAtItsEnds() {
        RosterSolve x = Check.made(7, 6);
        CHECK.due("the first wish", x.wish(0, 0, 0, false, 1), 0);
        CHECK.due("a weight of 1", x.unmet(), 1);
        CHECK.due("the second wish", x.wish(5, 6, 3, true, 100), 1);
        CHECK.due("a weight of 100", x.unmet(), 101);
        x.freeze(6);
        for (int number = 2; number < 20; number++) {
            CHECK.due("a wish on the first day that is not frozen", x.wish(1, 6, 0, true, 1), number);
        }
        CHECK.due("20 wishes", x.count(2), 20);
        CHECK.refusedHere("a 21st wish", x, y -> y.wish(1, 6, 0, true, 1), Check.ROOM);
        x.days(7);
        CHECK.due("days make room for wishes", x.wish(0, 0, 3, true, 1), 0);
    }

    // Promise 8. "Range: it is below the present one, or above the days."
    private static void freeze() {
        for (int below : Check.outside(0, 3)) {
            CHECK.range("freeze(" + below + ")", Start::some, x -> x.freeze(below));
        }
        CHECK.range("freeze without days", Start::fresh, x -> x.freeze(1));
        CHECK.range("freeze below the present one", Start::frozen, x -> x.freeze(0));
        CHECK.range("freeze one below all", SetupEdgeTest::allFrozen, x -> x.freeze(2));
        CHECK.range("freeze one above all", SetupEdgeTest::allFrozen, x -> x.freeze(4));
        RosterSolve x = Check.made(7, 1);
        for (int below = 0; below <= 7; below++) {
            x.freeze(below);
            x.freeze(below);
            CHECK.due("freeze(" + below + ") twice", x.count(3), below);
        }
        CHECK.refusedHere("freeze(8) of 7 days", x, y -> y.freeze(8), Check.RANGE);
        x.days(0);
        CHECK.due("days freeze nothing", x.count(3), 0);
        x.freeze(0);
        CHECK.refusedHere("freeze(1) of 0 days", x, y -> y.freeze(1), Check.RANGE);
    }

    // Promise 9. "Unknown: no such person, day or shift (0 .. 3); state: the day is frozen."

    private static void set() {
        CHECK.unknown("set without persons", () -> Check.made(3, 0), x -> x.set(0, 0, 0));
        CHECK.unknown("set without days", () -> Check.made(0, 2), x -> x.set(0, 0, 0));
        for (Supplier<RosterSolve> start : List.<Supplier<RosterSolve>>of(Start::some, Start::frozen)) {
            for (int person : Check.outside(0, 1)) {
                CHECK.unknown("set of person " + person, start, x -> x.set(person, 0, 1));
            }
            for (int day : Check.outside(0, 2)) {
                CHECK.unknown("set on day " + day, start, x -> x.set(0, day, 1));
            }
            for (int shift : Check.outside(0, 3)) {
                CHECK.unknown("set to shift " + shift, start, x -> x.set(0, 0, shift));
            }
        }
        CHECK.state("set on a frozen day", Start::frozen, x -> x.set(0, 0, 1));
        CHECK.state("set on a frozen day to what it is", Start::frozen, x -> x.set(0, 0, 2));
        CHECK.state("set on the last day, all frozen", SetupEdgeTest::allFrozen, x -> x.set(1, 2, 3));
    }

    private static void setAtItsEnds() {
        RosterSolve x = Check.made(7, 6);
        x.rules(24, 0, 0);
        x.bar(5, 6, 3, true);
        x.set(0, 0, 3);
        x.set(5, 6, 3);
        CHECK.due("the first cell, whatever the rules", x.shift(0, 0), 3);
        CHECK.due("the last cell, whatever the bars", x.shift(5, 6), 3);
        x.set(0, 0, 0);
        CHECK.due("off again", x.shift(0, 0), 0);
        x.freeze(6);
        CHECK.refusedHere("the last day that is frozen", x, y -> y.set(5, 5, 1), Check.STATE);
        x.set(5, 6, 1);
        CHECK.due("the first day that is not frozen", x.shift(5, 6), 1);
        x.freeze(7);
        CHECK.refusedHere("all days frozen", x, y -> y.set(5, 6, 0), Check.STATE);
        x.days(7);
        x.set(0, 0, 2);
        CHECK.due("days freeze nothing", x.shift(0, 0), 2);
    }
}
