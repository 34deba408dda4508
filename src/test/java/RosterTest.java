/** Promises 12 to 19: swaps, what is asked of the roster, and editions. RosterEdgeTest has the boundary cases. */
public final class RosterTest {
    private static final Check CHECK = new Check();

    private RosterTest() {
    }

    public static void main(String[] args) {
        swap();
        swapRefusals();
        shift();
        wrongNeeds();
        wrongRests();
        wrongMost();
        wrongNights();
        wrongBars();
        wrongInOrder();
        unmet();
        cost();
        share();
        publish();
        publishAndDays();
        count();
        CHECK.end("RosterTest");
    }

    private static void swap() {
        RosterSolve x = new RosterSolve();
        x.days(2);
        x.person(1, 10);
        x.person(3, 20);
        x.person(0, 30);
        x.need(0, 1, 1, 1);
        Check.give(x, 0, "10");
        Check.give(x, 1, "02");
        Check.give(x, 2, "30");
        x.swap(0, 1, 0);
        CHECK.due("a swap on one day alone", Check.shifts(x), "00 12 30");
        x.swap(1, 0, 0);
        CHECK.due("a swap back", Check.shifts(x), "10 02 30");
        CHECK.refusedHere("a swap that leaves a need", x, y -> y.swap(0, 2, 0), Check.STATE);
        x.swap(0, 2, 1);
        CHECK.due("a swap of what is the same", Check.shifts(x), "10 02 30");
        x.bar(2, 1, 2, true);
        CHECK.refusedHere("a swap to a barred shift", x, y -> y.swap(1, 2, 1), Check.STATE);
        x.bar(2, 1, 2, false);
        CHECK.refusedHere("a swap that leaves too short a rest", x, y -> y.swap(1, 2, 1), Check.STATE);
        x.rules(8, 7, 7);
        x.swap(1, 2, 1);
        CHECK.due("a swap under another rest", Check.shifts(x), "10 00 32");
        x.set(2, 0, 0);
        x.rules(8, 1, 0);
        CHECK.refusedHere("a swap that leaves too many shifts", x, y -> y.swap(0, 2, 1), Check.STATE);
        x.swap(0, 1, 0);
        CHECK.due("a swap that leaves not too many", Check.shifts(x), "00 10 02");
    }

    private static void swapRefusals() {
        RosterSolve x = Check.made(3, 2);
        Check.give(x, 0, "111");
        x.freeze(1);
        CHECK.refusedHere("swap on a frozen day", x, y -> y.swap(0, 1, 0), Check.STATE);
        x.swap(0, 1, 1);
        CHECK.due("swap behind the frozen day", Check.shifts(x), "101 010");
        x.need(2, 3, 1, 0);
        CHECK.refusedHere("swap in a roster that stays wrong", x, y -> y.swap(0, 1, 1), Check.STATE);
        CHECK.refusedHere("swap of nothing in a roster that is wrong", x, y -> y.swap(1, 0, 1), Check.STATE);
        x.need(2, 3, 0, 0);
        x.bar(0, 2, 1, true);
        x.swap(0, 1, 2);
        CHECK.due("swap that makes the roster right", Check.shifts(x), "100 011");
    }

    private static void shift() {
        RosterSolve x = Check.made(7, 6);
        for (int person = 0; person < 6; person++) {
            for (int day = 0; day < 7; day++) {
                x.set(person, day, (person * 3 + day * 5 + person * day) % 4);
            }
        }
        for (int person = 0; person < 6; person++) {
            for (int day = 0; day < 7; day++) {
                CHECK.due("shift", x.shift(person, day), (person * 3 + day * 5 + person * day) % 4);
            }
        }
    }

    private static void wrongNeeds() {
        RosterSolve x = Check.made(7, 6);
        x.need(6, 3, 1, 0);
        CHECK.due("the last need", x.wrong(), 136);
        x.need(6, 1, 1, 0);
        CHECK.due("shifts in their order", x.wrong(), 116);
        x.need(0, 3, 1, 0);
        CHECK.due("days before shifts", x.wrong(), 130);
        x.set(5, 0, 3);
        CHECK.due("the next need", x.wrong(), 116);
        x.set(5, 6, 1);
        CHECK.due("the need after it", x.wrong(), 136);
        x.set(0, 6, 3);
        CHECK.due("no need is left", x.wrong(), 0);
    }

    private static void wrongRests() {
        int[][] hours = {{16, 24, 32}, {8, 16, 24}, {0, 8, 16}};
        for (int before = 1; before <= 3; before++) {
            for (int then = 1; then <= 3; then++) {
                for (int rest = 0; rest <= 24; rest++) {
                    RosterSolve x = Check.made(7, 6);
                    x.rules(rest, 7, 7);
                    x.set(5, 5, before);
                    x.set(5, 6, then);
                    boolean enough = hours[before - 1][then - 1] >= rest;
                    CHECK.due("rest " + rest + " from " + before + " to " + then, x.wrong(), enough ? 0 : 256);
                }
            }
        }
        RosterSolve x = Check.made(4, 2);
        x.rules(24, 7, 7);
        Check.give(x, 0, "3010");
        CHECK.due("a day off between", x.wrong(), 0);
        Check.give(x, 0, "0031");
        Check.give(x, 1, "3100");
        CHECK.due("rests by persons, then days", x.wrong(), 203);
        Check.give(x, 0, "0000");
        CHECK.due("the rest of the next person", x.wrong(), 211);
    }

    private static void wrongMost() {
        RosterSolve x = Check.made(7, 2);
        Check.give(x, 0, "0110100");
        Check.give(x, 1, "1111110");
        x.rules(11, 3, 7);
        CHECK.due("most is not more than most", x.wrong(), 315);
        x.rules(11, 2, 7);
        CHECK.due("the last day with a shift", x.wrong(), 304);
        x.rules(11, 0, 7);
        CHECK.due("no shifts at all", x.wrong(), 304);
        x.rules(11, 6, 7);
        CHECK.due("six of six", x.wrong(), 0);
    }

    private static void wrongNights() {
        RosterSolve x = Check.made(7, 2);
        Check.give(x, 0, "3303330");
        Check.give(x, 1, "3333333");
        x.rules(11, 7, 7);
        CHECK.due("seven nights", x.wrong(), 0);
        x.rules(11, 7, 6);
        CHECK.due("the seventh night", x.wrong(), 416);
        x.rules(11, 7, 3);
        CHECK.due("the fourth night", x.wrong(), 413);
        x.rules(11, 7, 2);
        CHECK.due("the third night in a row", x.wrong(), 405);
        x.rules(11, 7, 1);
        CHECK.due("the second night in a row", x.wrong(), 401);
        x.rules(0, 7, 1);
        Check.give(x, 0, "3131313");
        CHECK.due("nights that are not in a row", x.wrong(), 411);
        x.rules(0, 7, 0);
        CHECK.due("no nights at all", x.wrong(), 400);
    }

    private static void wrongBars() {
        RosterSolve x = Check.made(7, 6);
        x.bar(5, 6, 3, true);
        CHECK.due("a bar from what is not had", x.wrong(), 0);
        x.set(5, 6, 3);
        CHECK.due("the last bar", x.wrong(), 556);
        x.bar(5, 0, 1, true);
        x.set(5, 0, 1);
        CHECK.due("an earlier day", x.wrong(), 550);
        x.bar(2, 4, 2, true);
        x.set(2, 4, 2);
        CHECK.due("persons before days", x.wrong(), 524);
    }

    private static void wrongInOrder() {
        RosterSolve x = Check.made(3, 2);
        Check.give(x, 0, "303");
        Check.give(x, 1, "331");
        x.bar(0, 0, 3, true);
        x.rules(11, 2, 1);
        x.need(2, 2, 1, 0);
        CHECK.due("a need first", x.wrong(), 122);
        x.need(2, 2, 0, 0);
        CHECK.due("then a rest", x.wrong(), 212);
        x.rules(0, 2, 1);
        CHECK.due("then too many shifts", x.wrong(), 312);
        x.rules(0, 3, 1);
        CHECK.due("then too many nights", x.wrong(), 411);
        x.rules(0, 3, 2);
        CHECK.due("then a bar", x.wrong(), 500);
        x.bar(0, 0, 3, false);
        CHECK.due("then nothing", x.wrong(), 0);
    }

    private static void unmet() {
        for (int wished = 0; wished <= 3; wished++) {
            for (int had = 0; had <= 3; had++) {
                RosterSolve x = Check.made(7, 6);
                x.set(5, 6, had);
                x.wish(5, 6, wished, true, 100);
                CHECK.due("wants " + wished + ", has " + had, x.unmet(), wished == had ? 0 : 100);
                x.wish(5, 6, wished, false, 1);
                CHECK.due("both ways", x.unmet(), wished == had ? 1 : 100);
            }
        }
        RosterSolve x = Check.made(2, 2);
        for (int number = 0; number < 20; number++) {
            x.wish(number % 2, number / 2 % 2, 3, true, 100);
        }
        CHECK.due("all unmet", x.unmet(), 2000);
        x.set(0, 0, 3);
        x.freeze(1);
        CHECK.due("some unmet", x.unmet(), 1500);
    }

    private static void cost() {
        RosterSolve x = new RosterSolve();
        CHECK.due("no persons", x.cost(), 0);
        x.days(7);
        for (int person = 0; person < 6; person++) {
            x.person(0, 10000);
        }
        CHECK.due("all off", x.cost(), 0);
        x.set(0, 0, 1);
        CHECK.due("an early shift", x.cost(), 80000);
        x.set(0, 0, 3);
        CHECK.due("a night costs no more", x.cost(), 80000);
        for (int person = 0; person < 6; person++) {
            Check.give(x, person, "1231231");
        }
        CHECK.due("the highest cost", x.cost(), 3360000);
        CHECK.due("a share of the highest", x.share(3), 166);
        x.days(7);
        CHECK.due("after days", x.cost(), 0);
    }

    private static void share() {
        RosterSolve x = new RosterSolve();
        x.days(7);
        x.person(0, 1);
        x.person(0, 2);
        x.person(0, 0);
        x.person(0, 10000);
        x.set(0, 0, 1);
        CHECK.due("all of it", x.share(0), 1000);
        CHECK.due("nothing of it", x.share(1), 0);
        x.set(1, 0, 2);
        CHECK.due("a third, rounded down", x.share(0), 333);
        CHECK.due("two thirds, rounded down", x.share(1), 666);
        x.set(2, 0, 3);
        CHECK.due("a rate of 0", x.share(2), 0);
        Check.give(x, 3, "1111111");
        CHECK.due("nearly all", x.share(3), 999);
        CHECK.due("nearly nothing", x.share(1), 0);
    }

    private static void publish() {
        RosterSolve x = Check.made(3, 2);
        CHECK.due("all off", x.publish(), 0);
        Check.give(x, 0, "123");
        Check.give(x, 1, "003");
        CHECK.due("four shifts", x.publish(), 4);
        CHECK.due("the same again", x.publish(), 0);
        Check.give(x, 0, "321");
        Check.give(x, 1, "000");
        CHECK.due("changed, and off again", x.publish(), 3);
        CHECK.due("editions", x.count(4), 4);
        x.person(0, 0);
        CHECK.due("a new person that is off", x.publish(), 0);
        x.set(2, 1, 1);
        x.set(2, 1, 2);
        CHECK.due("a new person's shift", x.publish(), 1);
        x.need(0, 1, 6, 0);
        x.set(0, 0, 0);
        CHECK.due("a roster that is wrong", x.publish(), 1);
        CHECK.due("editions at last", x.count(4), 7);
        CHECK.due("publishing changes no shift", Check.shifts(x), "021 000 020");
    }

    private static void publishAndDays() {
        RosterSolve x = Check.made(3, 1);
        Check.give(x, 0, "123");
        CHECK.due("three shifts", x.publish(), 3);
        x.days(3);
        CHECK.due("days alone leaves what was published", x.publish(), 3);
        Check.give(x, 0, "123");
        x.publish();
        x.days(1);
        x.days(3);
        Check.give(x, 0, "123");
        CHECK.due("fewer days in between that were not published", x.publish(), 0);
        x.days(2);
        x.set(0, 0, 1);
        CHECK.due("days that are not now don't count", x.publish(), 1);
        x.days(3);
        Check.give(x, 0, "103");
        CHECK.due("they were published as off", x.publish(), 1);
        x.days(0);
        CHECK.due("no days", x.publish(), 0);
        x.days(3);
        CHECK.due("all were published as off", x.publish(), 0);
        CHECK.due("editions", x.count(4), 8);
    }

    private static void count() {
        RosterSolve x = new RosterSolve();
        x.days(5);
        x.person(0, 0);
        x.person(0, 0);
        x.wish(0, 0, 0, true, 1);
        x.wish(1, 4, 0, true, 1);
        x.wish(0, 0, 0, true, 1);
        x.freeze(4);
        x.publish();
        int[] counts = {2, 5, 3, 4, 1};
        for (int what = 0; what <= 4; what++) {
            CHECK.due("count(" + what + ")", x.count(what), counts[what]);
        }
        x.days(4);
        int[] afterDays = {2, 4, 0, 0, 1};
        for (int what = 0; what <= 4; what++) {
            CHECK.due("count(" + what + ") after days", x.count(what), afterDays[what]);
        }
    }
}
