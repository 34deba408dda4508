/** Promises 2 to 9: what is told to an object, and what that does. SetupEdgeTest has the boundary cases. */
public final class SetupTest {
    private static final Check CHECK = new Check();

    private SetupTest() {
    }

    public static void main(String[] args) {
        days();
        daysForget();
        daysKeep();
        person();
        need();
        rules();
        bar();
        wish();
        freeze();
        set();
        CHECK.end("SetupTest");
    }

    private static RosterSolve twoPersonsThreeDays() {
        RosterSolve x = new RosterSolve();
        x.days(3);
        x.person(1, 100);
        x.person(2, 300);
        x.set(0, 1, 2);
        x.set(1, 2, 3);
        return x;
    }

    private static void days() {
        for (int d = 0; d <= 7; d++) {
            RosterSolve x = Check.made(d, 1);
            CHECK.due("days", x.count(1), d);
            for (int day = 0; day < d; day++) {
                CHECK.due("off at first", x.shift(0, day), 0);
            }
            int beyond = d;
            CHECK.refusedHere("a day beyond", x, y -> y.shift(0, beyond), Check.UNKNOWN);
        }
    }

    private static void daysForget() {
        RosterSolve x = twoPersonsThreeDays();
        x.need(0, 1, 2, 3);
        x.need(2, 3, 0, 8);
        x.wish(0, 1, 3, true, 40);
        x.bar(0, 1, 2, true);
        x.freeze(2);
        x.days(3);
        CHECK.due("shifts after days", Check.shifts(x), "000 000");
        CHECK.due("wishes after days", x.count(2), 0);
        CHECK.due("frozen after days", x.count(3), 0);
        CHECK.due("unmet after days", x.unmet(), 0);
        CHECK.due("needs after days", x.wrong(), 0);
        x.set(0, 1, 2);
        CHECK.due("bars after days", x.wrong(), 0);
        CHECK.due("the first wish after days", x.wish(0, 0, 1, true, 1), 0);
        x.days(1);
        x.days(3);
        CHECK.due("shifts after fewer and more days", Check.shifts(x), "000 000");
    }

    private static void daysKeep() {
        RosterSolve x = twoPersonsThreeDays();
        x.rules(0, 1, 0);
        x.publish();
        x.solve(100);
        x.days(2);
        CHECK.due("persons after days", x.count(0), 2);
        CHECK.due("editions after days", x.count(4), 1);
        CHECK.due("solved after days", x.solved(2), 1);
        x.set(1, 0, 3);
        CHECK.due("rules after days", x.wrong(), 410);
        x.set(1, 0, 1);
        x.set(1, 1, 1);
        CHECK.due("most after days", x.wrong(), 311);
        CHECK.due("rates after days", x.cost(), 4800);
        x.need(0, 1, 1, 2);
        x.set(1, 1, 0);
        CHECK.due("skills after days", x.wrong(), 0);
    }

    private static void person() {
        RosterSolve x = new RosterSolve();
        x.days(7);
        int[] skills = {0, 15, 1, 8, 7, 4};
        int[] rates = {0, 10000, 1, 9999, 50, 60};
        for (int i = 0; i < 6; i++) {
            CHECK.due("person", x.person(skills[i], rates[i]), i);
            CHECK.due("persons", x.count(0), i + 1);
            for (int day = 0; day < 7; day++) {
                CHECK.due("a new person is off", x.shift(i, day), 0);
                x.set(i, day, 1);
            }
        }
        CHECK.due("cost by rates", x.cost(), 7 * 8 * (10000 + 1 + 9999 + 50 + 60));
    }

    private static void need() {
        RosterSolve x = twoPersonsThreeDays();
        Check.give(x, 0, "120");
        Check.give(x, 1, "100");
        x.need(0, 1, 2, 3);
        CHECK.due("two with both skills", x.wrong(), 0);
        x.need(0, 1, 3, 0);
        CHECK.due("one too few", x.wrong(), 110);
        x.need(0, 1, 0, 0);
        CHECK.due("a need is replaced", x.wrong(), 0);
        x.need(0, 1, 0, 4);
        CHECK.due("a skill that nobody has", x.wrong(), 110);
        x.need(0, 1, 1, 1);
        x.need(1, 2, 1, 1);
        CHECK.due("a skill of the one that is there", x.wrong(), 0);
        x.need(1, 2, 1, 3);
        CHECK.due("a skill of one that is elsewhere", x.wrong(), 121);
        x.need(1, 2, 1, 0);
        x.need(2, 3, 6, 15);
        CHECK.due("the highest need", x.wrong(), 132);
        x.freeze(3);
        x.need(2, 3, 0, 0);
        CHECK.due("a need on a frozen day", x.wrong(), 0);
    }

    private static void rules() {
        RosterSolve x = Check.made(7, 1);
        Check.give(x, 0, "3333333");
        CHECK.due("seven nights under the first rules", x.wrong(), 0);
        Check.give(x, 0, "2100000");
        CHECK.due("eight hours under the first rest", x.wrong(), 201);
        x.rules(8, 7, 7);
        CHECK.due("eight hours are enough", x.wrong(), 0);
        x.rules(24, 0, 0);
        x.rules(0, 7, 7);
        CHECK.due("rules are replaced", x.wrong(), 0);
        x.rules(0, 1, 7);
        CHECK.due("the second of one shift", x.wrong(), 301);
    }

    private static void bar() {
        for (int shift = 1; shift <= 3; shift++) {
            RosterSolve x = twoPersonsThreeDays();
            x.set(1, 2, shift);
            x.bar(1, 2, shift, true);
            x.bar(1, 2, shift, true);
            CHECK.due("barred", x.wrong(), 512);
            x.set(1, 2, shift % 3 + 1);
            CHECK.due("another shift", x.wrong(), 0);
            x.set(1, 2, 0);
            CHECK.due("off", x.wrong(), 0);
            x.set(1, 2, shift);
            x.set(1, 2, shift);
            x.freeze(3);
            x.bar(1, 2, shift, false);
            CHECK.due("not barred any more", x.wrong(), 0);
            x.bar(0, 2, shift, true);
            x.bar(1, 1, shift, true);
            CHECK.due("another person, another day", x.wrong(), 0);
            x.bar(1, 2, shift, true);
            CHECK.due("a bar on a frozen day", x.wrong(), 512);
        }
    }

    private static void wish() {
        RosterSolve x = twoPersonsThreeDays();
        CHECK.due("a wish", x.wish(0, 1, 2, true, 1), 0);
        CHECK.due("a wish that is met", x.unmet(), 0);
        CHECK.due("a wish", x.wish(0, 1, 2, false, 100), 1);
        CHECK.due("not to have it", x.unmet(), 100);
        CHECK.due("a wish", x.wish(1, 0, 0, false, 7), 2);
        CHECK.due("not to be off", x.unmet(), 107);
        CHECK.due("a wish", x.wish(1, 0, 0, true, 9), 3);
        CHECK.due("to be off", x.unmet(), 107);
        for (int number = 4; number < 20; number++) {
            CHECK.due("a wish", x.wish(1, 2, 3, false, number), number);
        }
        CHECK.due("the wishes", x.count(2), 20);
    }

    private static void freeze() {
        RosterSolve x = twoPersonsThreeDays();
        x.freeze(1);
        CHECK.due("frozen", x.count(3), 1);
        CHECK.due("a freeze changes no shift", Check.shifts(x), "020 003");
        CHECK.refusedHere("set on a frozen day", x, y -> y.set(0, 0, 1), Check.STATE);
        CHECK.refusedHere("wish on a frozen day", x, y -> y.wish(0, 0, 1, true, 1), Check.STATE);
        x.set(0, 1, 1);
        CHECK.due("set on a day that is not frozen", Check.shifts(x), "010 003");
        x.freeze(3);
        CHECK.due("all frozen", x.count(3), 3);
        CHECK.refusedHere("set on the last day", x, y -> y.set(0, 2, 1), Check.STATE);
        x.days(2);
        CHECK.due("nothing is frozen after days", x.count(3), 0);
        x.freeze(2);
        CHECK.due("frozen again", x.count(3), 2);
    }

    private static void set() {
        RosterSolve x = twoPersonsThreeDays();
        CHECK.due("set", Check.shifts(x), "020 003");
        x.rules(24, 0, 0);
        x.bar(0, 0, 3, true);
        for (int shift = 3; shift >= 0; shift--) {
            x.set(0, 0, shift);
            CHECK.due("set whatever the rules", x.shift(0, 0), shift);
        }
        CHECK.due("set changes one shift alone", Check.shifts(x), "020 003");
        x.freeze(1);
        x.set(0, 1, 3);
        CHECK.due("set behind the frozen day", Check.shifts(x), "030 003");
    }
}
