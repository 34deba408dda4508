import java.util.function.Supplier;

/** The boundary cases of promises 12 to 19 and of the 512 calls, a test for each sentence that names one. */
public final class RosterEdgeTest {
    private static final Check CHECK = new Check();

    private RosterEdgeTest() {
    }

    public static void main(String[] args) {
        swapUnknown();
        swapFrozen();
        swapNotRight();
        swapAtItsEnds();
        shift();
        wrongNothing();
        wrongNeedEnds();
        wrongRestEnds();
        wrongMostEnds();
        wrongNightsEnds();
        wrongBarEnds();
        wrongOrder();
        unmet();
        cost();
        shareRefusals();
        shareEnds();
        publishAtFirst();
        publishPersonsThatNeverWere();
        publishDaysThatNeverWere();
        publishDaysThatAreNotNow();
        publishSolvedWithFewerDays();
        publishAndDaysAlone();
        count();
        countEnds();
        lastOf512Calls();
        CHECK.end("RosterEdgeTest");
    }

    // Promise 12. "Unknown: no such persons (or they are one) or day".
    private static void swapUnknown() {
        CHECK.unknown("swap without persons", () -> Check.made(3, 0), x -> x.swap(0, 1, 0));
        CHECK.unknown("swap of one person alone", () -> Check.made(3, 1), x -> x.swap(0, 1, 0));
        CHECK.unknown("swap without days", () -> Check.made(0, 2), x -> x.swap(0, 1, 0));
        for (int person : Check.outside(0, 1)) {
            CHECK.unknown("swap of person " + person, Start::week, x -> x.swap(person, 0, 0));
            CHECK.unknown("swap with person " + person, Start::week, x -> x.swap(0, person, 0));
            CHECK.unknown("unknown before frozen: person " + person, Start::frozen, x -> x.swap(person, 1, 0));
            CHECK.unknown("unknown before frozen: other " + person, Start::frozen, x -> x.swap(1, person, 0));
            // Each swap of these leaves the roster not right.
            CHECK.unknown("unknown before not right: person " + person, Start::some, x -> x.swap(person, 1, 1));
            CHECK.unknown("unknown before not right: other " + person, Start::some, x -> x.swap(0, person, 1));
        }
        for (int day : Check.outside(0, 6)) {
            CHECK.unknown("swap on day " + day, Start::week, x -> x.swap(0, 1, day));
        }
        for (int day : Check.outside(0, 2)) {
            CHECK.unknown("unknown before frozen and not right: day " + day, Start::frozen, x -> x.swap(0, 1, day));
        }
        CHECK.unknown("swap with oneself", Start::week, x -> x.swap(0, 0, 0));
        CHECK.unknown("swap of the last with oneself", Start::full, x -> x.swap(5, 5, 1));
        CHECK.unknown("oneself before frozen", Start::frozen, x -> x.swap(1, 1, 0));
        CHECK.unknown("oneself before not right", Start::some, x -> x.swap(1, 1, 1));
        CHECK.unknown("two that are not there and are one", Start::week, x -> x.swap(2, 2, 0));
        CHECK.unknown("person 6 of 6", Start::full, x -> x.swap(0, 6, 1));
    }

    // Promise 12. "State: the day is frozen".
    private static void swapFrozen() {
        CHECK.state("swap on a frozen day", Start::full, x -> x.swap(0, 1, 0));
        CHECK.state("swap of the same on a frozen day", Start::full, x -> x.swap(0, 3, 0));
        CHECK.state("swap on the last frozen day", () -> frozenWeek(7), x -> x.swap(0, 1, 6));
        CHECK.state("swap on the last day but one", () -> frozenWeek(6), x -> x.swap(0, 1, 5));
        RosterSolve x = frozenWeek(6);
        x.swap(0, 1, 6);
        CHECK.due("swap on the first day that is not frozen", Check.shifts(x), "1111110 0000001");
    }

    private static RosterSolve frozenWeek(int frozen) {
        RosterSolve x = Start.week();
        Check.give(x, 0, "1111111");
        x.freeze(frozen);
        return x;
    }

    // Promise 12. "State: .. the roster would not be right".

    private static void swapNotRight() {
        notRightOnDay0("a need of a skill", () -> withNeed(1, 0, 2));
        notRightOnDay0("a need of a person with a skill", () -> withNeed(3, 1, 1));
        notRightOnDay0("a rest", () -> two("11", "30", 1, 7, 7));
        notRightOnDay0("too many shifts", () -> two("10", "01", 0, 1, 7));
        notRightOnDay0("too many nights", () -> two("30", "03", 0, 7, 1));
        notRightOnDay0("a bar", RosterEdgeTest::withBar);
        CHECK.state("a need of another day that is not met", RosterEdgeTest::withNeedOfDay1, x -> x.swap(0, 1, 0));
        RosterSolve x = two("31", "10", 0, 2, 1);
        x.swap(0, 1, 0);
        CHECK.due("a swap that leaves all right", Check.shifts(x), "11 30");
        x.swap(1, 0, 1);
        CHECK.due("a swap at the rules' ends", Check.shifts(x), "10 31");
    }

    private static void notRightOnDay0(String what, Supplier<RosterSolve> start) {
        CHECK.due(what + ": right before", start.get().wrong(), 0);
        CHECK.state(what, start, x -> x.swap(0, 1, 0));
        CHECK.state(what + ", the other way round", start, x -> x.swap(1, 0, 0));
    }

    private static RosterSolve two(String shifts, String otherShifts, int rest, int most, int nights) {
        RosterSolve x = new RosterSolve();
        x.days(2);
        x.person(1, 10);
        x.person(2, 20);
        Check.give(x, 0, shifts);
        Check.give(x, 1, otherShifts);
        x.rules(rest, most, nights);
        return x;
    }

    private static RosterSolve withNeed(int shift, int persons, int skills) {
        RosterSolve x = two("31", "10", 0, 2, 1);
        x.need(0, shift, persons, skills);
        return x;
    }

    private static RosterSolve withNeedOfDay1() {
        RosterSolve x = two("31", "10", 0, 2, 1);
        x.need(1, 1, 2, 0);
        return x;
    }

    private static RosterSolve withBar() {
        RosterSolve x = two("31", "10", 0, 2, 1);
        x.bar(1, 0, 3, true);
        return x;
    }

    private static void swapAtItsEnds() {
        RosterSolve x = Check.made(7, 6);
        x.set(0, 0, 1);
        x.set(5, 6, 3);
        x.swap(0, 5, 0);
        x.swap(0, 5, 6);
        CHECK.due("the first person", x.shift(0, 0) * 10 + x.shift(0, 6), 3);
        CHECK.due("the last person", x.shift(5, 0) * 10 + x.shift(5, 6), 10);
        x.bar(5, 0, 1, true);
        CHECK.due("not right before", x.wrong(), 550);
        x.swap(5, 0, 0);
        CHECK.due("a swap that makes it right", x.wrong(), 0);
    }

    // Promise 13. "Unknown: no such person or day."
    private static void shift() {
        CHECK.unknown("shift without persons", () -> Check.made(7, 0), x -> x.shift(0, 0));
        CHECK.unknown("shift without days", () -> Check.made(0, 2), x -> x.shift(0, 0));
        for (int person : Check.outside(0, 1)) {
            CHECK.unknown("shift of person " + person, Start::some, x -> x.shift(person, 0));
        }
        for (int day : Check.outside(0, 2)) {
            CHECK.unknown("shift on day " + day, Start::some, x -> x.shift(0, day));
        }
        CHECK.unknown("shift of person 6 of 6", Start::full, x -> x.shift(6, 0));
        CHECK.unknown("shift on day 7 of 7", Start::week, x -> x.shift(0, 7));
        RosterSolve x = Check.made(7, 6);
        x.set(0, 0, 3);
        x.set(5, 6, 2);
        x.set(0, 6, 1);
        CHECK.due("the first cell", x.shift(0, 0), 3);
        CHECK.due("the last cell", x.shift(5, 6), 2);
        CHECK.due("the first person's last day", x.shift(0, 6), 1);
        CHECK.due("the last person's first day", x.shift(5, 0), 0);
    }

    // Promise 14. "0 nothing".
    private static void wrongNothing() {
        CHECK.due("nothing at all", new RosterSolve().wrong(), 0);
        RosterSolve x = Check.made(7, 0);
        CHECK.due("no persons", x.wrong(), 0);
        x.need(6, 3, 1, 0);
        CHECK.due("no persons, a need", x.wrong(), 136);
        x.days(0);
        CHECK.due("no days", x.wrong(), 0);
        RosterSolve y = Check.made(7, 6);
        y.rules(24, 0, 0);
        CHECK.due("all off under the hardest rules", y.wrong(), 0);
    }

    // Promise 14. "1 a need (by days, then shifts)": 100 times that, 10 times the shift, and the day.
    private static void wrongNeedEnds() {
        RosterSolve x = Check.made(7, 6);
        x.need(6, 3, 6, 0);
        CHECK.due("the last day's last shift", x.wrong(), 136);
        x.need(6, 1, 0, 1);
        CHECK.due("the last day's first shift", x.wrong(), 116);
        x.need(5, 3, 1, 0);
        CHECK.due("a day before a shift", x.wrong(), 135);
        x.need(0, 3, 1, 0);
        CHECK.due("the first day's last shift", x.wrong(), 130);
        x.need(0, 1, 1, 0);
        CHECK.due("the first day's first shift", x.wrong(), 110);
        x.set(0, 0, 1);
        CHECK.due("just enough", x.wrong(), 130);
    }

    // Promise 14. "2 a rest .. the day of the shift that is too much".
    private static void wrongRestEnds() {
        RosterSolve x = Check.made(7, 6);
        Check.give(x, 5, "0000031");
        CHECK.due("the last rest", x.wrong(), 256);
        Check.give(x, 5, "3131000");
        CHECK.due("the first of two", x.wrong(), 251);
        Check.give(x, 0, "0000021");
        CHECK.due("a person before a day", x.wrong(), 206);
        x.rules(8, 7, 7);
        CHECK.due("8 hours under a rest of 8", x.wrong(), 251);
        x.rules(9, 7, 7);
        CHECK.due("8 hours under a rest of 9", x.wrong(), 206);
        x.rules(24, 7, 7);
        Check.give(x, 0, "3000003");
        Check.give(x, 5, "0301020");
        CHECK.due("a day off is always rest enough", x.wrong(), 0);
    }

    // Promise 14. "3 too many shifts .. the last day with a shift".
    private static void wrongMostEnds() {
        RosterSolve x = Check.made(7, 6);
        Check.give(x, 5, "1111111");
        x.rules(0, 7, 7);
        CHECK.due("seven of seven", x.wrong(), 0);
        x.rules(0, 6, 7);
        CHECK.due("seven of six", x.wrong(), 356);
        x.rules(0, 0, 7);
        x.set(0, 0, 3);
        CHECK.due("one of none", x.wrong(), 300);
        x.rules(0, 1, 7);
        CHECK.due("one of one", x.wrong(), 356);
        Check.give(x, 0, "1110000");
        CHECK.due("not the day that is too much but the last", x.wrong(), 302);
    }

    // Promise 14. "4 too many nights in a row .. the day of the shift that is too much".
    private static void wrongNightsEnds() {
        RosterSolve x = Check.made(7, 6);
        Check.give(x, 5, "3333333");
        x.rules(0, 7, 6);
        CHECK.due("seven of six", x.wrong(), 456);
        x.rules(0, 7, 1);
        CHECK.due("the second night", x.wrong(), 451);
        Check.give(x, 0, "0000033");
        CHECK.due("a person before a day", x.wrong(), 406);
        Check.give(x, 0, "3030303");
        CHECK.due("nights that are not in a row", x.wrong(), 451);
        x.rules(0, 7, 0);
        CHECK.due("a night of none", x.wrong(), 400);
        x.rules(0, 7, 2);
        Check.give(x, 5, "3313323");
        CHECK.due("another shift ends a row", x.wrong(), 0);
    }

    // Promise 14. "5 a bar (each by persons, then days ..)".
    private static void wrongBarEnds() {
        RosterSolve x = Check.made(7, 6);
        Check.give(x, 5, "1000003");
        Check.give(x, 0, "0000002");
        x.bar(5, 6, 3, true);
        CHECK.due("the last bar", x.wrong(), 556);
        x.bar(5, 0, 1, true);
        CHECK.due("the last person's first day", x.wrong(), 550);
        x.bar(0, 6, 2, true);
        CHECK.due("a person before a day", x.wrong(), 506);
        x.bar(0, 0, 1, true);
        CHECK.due("barred from what is not had", x.wrong(), 506);
    }

    // Promise 14. "What is first wrong": the lower kind goes first, even of a later person and day.
    private static void wrongOrder() {
        RosterSolve x = Check.made(7, 6);
        x.bar(0, 0, 3, true);
        Check.give(x, 0, "3000000");
        CHECK.due("a bar", x.wrong(), 500);
        Check.give(x, 1, "3300000");
        x.rules(0, 2, 1);
        CHECK.due("nights before a bar", x.wrong(), 411);
        Check.give(x, 2, "0001110");
        CHECK.due("too many shifts before nights", x.wrong(), 325);
        Check.give(x, 3, "0000032");
        x.rules(11, 2, 1);
        CHECK.due("a rest before too many shifts", x.wrong(), 236);
        x.need(6, 3, 1, 0);
        CHECK.due("a need before a rest", x.wrong(), 136);
    }

    // Promise 15, with no wishes, the least weight, and the most of all.
    private static void unmet() {
        CHECK.due("nothing at all", new RosterSolve().unmet(), 0);
        RosterSolve x = Check.made(7, 6);
        CHECK.due("no wishes", x.unmet(), 0);
        x.wish(5, 6, 0, true, 100);
        CHECK.due("one that is met", x.unmet(), 0);
        x.wish(5, 6, 0, false, 1);
        CHECK.due("the least weight", x.unmet(), 1);
        for (int number = 2; number < 20; number++) {
            x.wish(number % 6, number % 7, 3, true, 100);
        }
        CHECK.due("18 of the highest weight and one of the least", x.unmet(), 1801);
        x.set(5, 6, 2);
        CHECK.due("the other one of the two", x.unmet(), 1900);
        x.freeze(7);
        CHECK.due("frozen days count too", x.unmet(), 1900);
        x.days(7);
        CHECK.due("days forget wishes", x.unmet(), 0);
        for (int number = 0; number < 20; number++) {
            x.wish(0, 0, 0, false, 100);
        }
        CHECK.due("the highest sum", x.unmet(), 2000);
    }

    // Promise 16, from nothing to all that there can be.
    private static void cost() {
        CHECK.due("nothing at all", new RosterSolve().cost(), 0);
        RosterSolve x = new RosterSolve();
        x.days(7);
        x.person(0, 0);
        Check.give(x, 0, "1231231");
        CHECK.due("a rate of 0", x.cost(), 0);
        x.person(0, 1);
        x.set(1, 6, 3);
        CHECK.due("a shift at a rate of 1", x.cost(), 8);
        RosterSolve y = new RosterSolve();
        y.days(7);
        for (int person = 0; person < 6; person++) {
            y.person(0, 10000);
            Check.give(y, person, "3213213");
        }
        CHECK.due("the highest cost", y.cost(), 3360000);
        y.set(5, 6, 0);
        CHECK.due("one off", y.cost(), 3280000);
    }

    // Promise 17. "Unknown: no such person; ArithmeticException: all cost 0."
    private static void shareRefusals() {
        for (int person : Check.outside(0, 1)) {
            CHECK.unknown("share of person " + person, Start::some, x -> x.share(person));
            CHECK.unknown("unknown before all cost 0: person " + person, Start::week, x -> x.share(person));
        }
        CHECK.unknown("share without persons", () -> Check.made(7, 0), x -> x.share(0));
        CHECK.unknown("share of person 6 of 6", Start::full, x -> x.share(6));
        CHECK.zero("all off", Start::week, x -> x.share(1));
        CHECK.zero("all rates are 0", () -> frozenWeek(0), x -> x.share(0));
        CHECK.zero("no days", RosterEdgeTest::withoutDays, x -> x.share(0));
        CHECK.zero("who costs is off", RosterEdgeTest::freeWorker, x -> x.share(1));
    }

    private static RosterSolve withoutDays() {
        RosterSolve x = new RosterSolve();
        x.person(0, 10000);
        return x;
    }

    private static RosterSolve freeWorker() {
        RosterSolve x = Check.made(2, 1);
        x.person(0, 10000);
        x.set(0, 1, 3);
        return x;
    }

    // Promise 17. "1,000 times .. rounded down".
    private static void shareEnds() {
        RosterSolve x = freeWorker();
        x.set(1, 0, 1);
        CHECK.due("all of it", x.share(1), 1000);
        CHECK.due("nothing of it, for a rate of 0", x.share(0), 0);
        x.person(0, 10);
        CHECK.due("nothing of it, for who is off", x.share(2), 0);
        x.set(2, 1, 1);
        CHECK.due("just below one in a thousand", x.share(2), 0);
        CHECK.due("just above 999 in a thousand", x.share(1), 999);
        x.person(0, 9990);
        x.set(1, 0, 0);
        x.set(3, 0, 2);
        CHECK.due("just one in a thousand", x.share(2), 1);
        CHECK.due("just 999 in a thousand", x.share(3), 999);
        RosterSolve y = new RosterSolve();
        y.days(7);
        for (int person = 0; person < 6; person++) {
            y.person(0, 10000);
            Check.give(y, person, "1111111");
        }
        CHECK.due("a sixth of the highest cost", y.share(5), 166);
    }

    // Promise 18. "at first all off".
    private static void publishAtFirst() {
        CHECK.due("nothing at all", new RosterSolve().publish(), 0);
        RosterSolve x = Check.made(7, 6);
        CHECK.due("all off", x.publish(), 0);
        for (int person = 0; person < 6; person++) {
            Check.give(x, person, "3123123");
        }
        CHECK.due("all 42", x.publish(), 42);
        CHECK.due("none", x.publish(), 0);
        x.set(5, 6, 0);
        CHECK.due("the last one", x.publish(), 1);
        x.set(0, 0, 1);
        CHECK.due("the first one", x.publish(), 1);
        RosterSolve y = Check.made(7, 6);
        y.set(5, 6, 1);
        CHECK.due("other than all off", y.publish(), 1);
    }

    // Promise 18. "persons .. that never were had none".
    private static void publishPersonsThatNeverWere() {
        RosterSolve x = Check.made(2, 0);
        CHECK.due("nobody", x.publish(), 0);
        x.person(0, 0);
        CHECK.due("one that never was, and is off", x.publish(), 0);
        x.person(0, 0);
        Check.give(x, 1, "30");
        CHECK.due("one that never was, with a shift", x.publish(), 1);
        CHECK.due("now they were", x.publish(), 0);
    }

    // Promise 18. "days that never were had none".
    private static void publishDaysThatNeverWere() {
        RosterSolve x = Check.made(0, 2);
        CHECK.due("no days", x.publish(), 0);
        x.days(1);
        x.set(1, 0, 2);
        CHECK.due("a day that never was", x.publish(), 1);
        x.days(7);
        Check.give(x, 1, "2000003");
        CHECK.due("six more that never were", x.publish(), 1);
    }

    // Promise 18. "a roster that is published has days that are not now as off, which don't count".
    private static void publishDaysThatAreNotNow() {
        RosterSolve x = Check.made(3, 2);
        Check.give(x, 0, "123");
        Check.give(x, 1, "111");
        CHECK.due("six shifts", x.publish(), 6);
        x.days(2);
        Check.give(x, 0, "12");
        Check.give(x, 1, "11");
        CHECK.due("the third day is not now", x.publish(), 0);
        x.days(3);
        Check.give(x, 0, "123");
        Check.give(x, 1, "110");
        CHECK.due("the third day was published as off", x.publish(), 1);
        x.days(0);
        CHECK.due("no day is now", x.publish(), 0);
        x.days(3);
        Check.give(x, 0, "100");
        CHECK.due("all days were published as off", x.publish(), 1);
    }

    // Promise 18, the same sentence: what an earlier search found on days that are not now is not published either.
    private static void publishSolvedWithFewerDays() {
        RosterSolve x = Check.made(7, 1);
        x.need(6, 3, 1, 0);
        CHECK.due("a night on the last day", x.solve(20000), 0);
        CHECK.due("a night on the last day", x.shift(0, 6), 3);
        x.days(3);
        CHECK.due("fewer days", x.solve(20000), 0);
        CHECK.due("fewer days, all off", x.publish(), 0);
        x.days(0);
        CHECK.due("no days", x.solve(0), 0);
        CHECK.due("no days, nothing", x.publish(), 0);
        x.days(7);
        CHECK.due("the last day was published as off", x.publish(), 0);
    }

    // Promise 18. "days() alone leaves what was published".
    private static void publishAndDaysAlone() {
        RosterSolve x = Check.made(3, 1);
        Check.give(x, 0, "123");
        CHECK.due("three shifts", x.publish(), 3);
        x.days(0);
        x.days(1);
        x.days(3);
        CHECK.refusedHere("days(8)", x, y -> y.days(8), Check.RANGE);
        Check.give(x, 0, "120");
        CHECK.due("days came and went, the third is other", x.publish(), 1);
        x.days(3);
        CHECK.due("the shifts are forgotten, what was published is not", x.publish(), 2);
        CHECK.due("editions", x.count(4), 3);
    }

    // Promise 19. "Unknown: no such what."
    private static void count() {
        for (int what : Check.outside(0, 4)) {
            CHECK.unknown("new: count(" + what + ")", Start::fresh, x -> x.count(what));
            CHECK.unknown("some: count(" + what + ")", Start::some, x -> x.count(what));
            CHECK.unknown("full: count(" + what + ")", Start::full, x -> x.count(what));
        }
    }

    // Promise 19, from nothing to all full.
    private static void countEnds() {
        RosterSolve x = new RosterSolve();
        for (int what = 0; what <= 4; what++) {
            CHECK.due("nothing: count(" + what + ")", x.count(what), 0);
        }
        x.days(7);
        for (int person = 0; person < 6; person++) {
            x.person(0, 0);
        }
        for (int number = 0; number < 20; number++) {
            x.wish(0, 0, 0, true, 1);
        }
        x.freeze(7);
        x.publish();
        x.publish();
        CHECK.refusedHere("no room for a person", x, y -> y.person(0, 0), Check.ROOM);
        CHECK.refusedHere("no room for a wish", x, y -> y.wish(0, 0, 0, true, 1), Check.STATE);
        CHECK.refusedHere("no more to freeze", x, y -> y.freeze(8), Check.RANGE);
        int[] full = {6, 7, 20, 7, 2};
        for (int what = 0; what <= 4; what++) {
            CHECK.due("full: count(" + what + ")", x.count(what), full[what]);
        }
        x.days(0);
        int[] behindDays = {6, 0, 0, 0, 2};
        for (int what = 0; what <= 4; what++) {
            CHECK.due("behind days(0): count(" + what + ")", x.count(what), behindDays[what]);
        }
    }

    // "An object is used for at most 512 calls after it has been made".
    private static void lastOf512Calls() {
        RosterSolve x = new RosterSolve();
        x.days(7);
        x.person(0, 0);
        for (int call = 3; call < 512; call++) {
            x.publish();
        }
        CHECK.due("editions, by the 512th call", x.count(4), 509);
        RosterSolve y = Check.made(7, 6);
        y.need(6, 1, 0, 1);
        for (int call = 9; call < 512; call++) {
            CHECK.due("solve, up to the last call but one", y.solve(20000), -1);
        }
        CHECK.due("steps, by the 512th call", y.solved(1), 20000);
    }
}
