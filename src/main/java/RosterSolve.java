/** Rosters of persons over days: needs, hard rules, wishes, a search for the least unmet sum, and editions. */
public final class RosterSolve {
    private static final int MOST_PERSONS = 6;
    private static final int MOST_DAYS = 7;
    private static final int MOST_WISHES = 20;
    private static final int MOST_STEPS = 20000;
    private static final int MOST_SKILLS = 15;
    private static final int MOST_RATE = 10000;
    private static final int MOST_REST = 24;
    private static final int MOST_WEIGHT = 100;
    private static final int FIRST_REST = 11;
    private static final int OFF = 0;
    private static final int EARLY = 1;
    private static final int NIGHT = 3;
    private static final int SHIFTS = 4;
    private static final int HOURS = 8;
    private static final int CELLS = MOST_PERSONS * MOST_DAYS;
    private static final int NOT_FOUND = -1;

    private final Plan plan;
    private final Search search;
    // Cells of persons and days that are not there stay off in both rosters, so that either can be copied whole.
    private final int[] roster;
    private final int[] published;
    private int frozen;
    private int editions;

    public RosterSolve() {
        plan = new Plan();
        search = new Search(plan);
        roster = new int[CELLS];
        published = new int[CELLS];
        frozen = 0;
        editions = 0;
    }

    public void days(int d) throws IndexOutOfBoundsException {
        refuseOutside(d, 0, MOST_DAYS);
        plan.startDays(d);
        clearRow(roster);
        frozen = 0;
    }

    public int person(int skills, int rate) throws IndexOutOfBoundsException, UnsupportedOperationException {
        refuseOutside(skills, 0, MOST_SKILLS);
        refuseOutside(rate, 0, MOST_RATE);
        refuseFull(plan.persons, MOST_PERSONS);
        return plan.addPerson(skills, rate);
    }

    public void need(int day, int shift, int persons, int skills)
            throws IllegalArgumentException, IndexOutOfBoundsException {
        refuseUnknownDay(day);
        refuseUnknown(shift, EARLY, NIGHT);
        refuseOutside(persons, 0, MOST_PERSONS);
        refuseOutside(skills, 0, MOST_SKILLS);
        plan.putNeed(day, shift, persons, skills);
    }

    public void rules(int rest, int most, int nights) throws IndexOutOfBoundsException {
        refuseOutside(rest, 0, MOST_REST);
        refuseOutside(most, 0, MOST_DAYS);
        refuseOutside(nights, 0, MOST_DAYS);
        plan.putRules(rest, most, nights);
    }

    public void bar(int person, int day, int shift, boolean on) throws IllegalArgumentException {
        refuseUnknownPerson(person);
        refuseUnknownDay(day);
        refuseUnknown(shift, EARLY, NIGHT);
        plan.barred[choice(person, day, shift)] = on;
    }

    public int wish(int person, int day, int shift, boolean wants, int weight)
            throws IllegalArgumentException, IndexOutOfBoundsException, IllegalStateException,
            UnsupportedOperationException {
        refuseUnknownPerson(person);
        refuseUnknownDay(day);
        refuseUnknown(shift, OFF, NIGHT);
        refuseOutside(weight, 1, MOST_WEIGHT);
        refuseFrozen(day);
        refuseFull(plan.wishes, MOST_WISHES);
        return plan.addWish(choice(person, day, OFF), shift, wants, weight);
    }

    public void freeze(int below) throws IndexOutOfBoundsException {
        refuseOutside(below, frozen, plan.days);
        frozen = below;
    }

    public void set(int person, int day, int shift) throws IllegalArgumentException, IllegalStateException {
        refuseUnknownPerson(person);
        refuseUnknownDay(day);
        refuseUnknown(shift, OFF, NIGHT);
        refuseFrozen(day);
        roster[cell(person, day)] = shift;
    }

    public int solve(int steps) throws IndexOutOfBoundsException {
        refuseOutside(steps, 0, MOST_STEPS);
        search.run(roster, frozen, steps);
        if (search.rightOnes == 0) {
            return NOT_FOUND;
        }
        System.arraycopy(search.best, 0, roster, 0, CELLS);
        return search.bestUnmet;
    }

    public int solved(int what) throws IllegalArgumentException {
        refuseUnknown(what, 0, 2);
        if (what == 0) {
            return search.exact ? 1 : 0;
        }
        return what == 1 ? search.steps : search.rightOnes;
    }

    public void swap(int person, int other, int day) throws IllegalArgumentException, IllegalStateException {
        refuseUnknownPerson(person);
        refuseUnknownPerson(other);
        refuseSame(person, other);
        refuseUnknownDay(day);
        refuseFrozen(day);
        exchange(cell(person, day), cell(other, day));
        if (plan.firstFault(roster) != 0) {
            exchange(cell(person, day), cell(other, day));
            throw new IllegalStateException("the roster would not be right");
        }
    }

    public int shift(int person, int day) throws IllegalArgumentException {
        refuseUnknownPerson(person);
        refuseUnknownDay(day);
        return roster[cell(person, day)];
    }

    public int wrong() {
        return plan.firstFault(roster);
    }

    public int unmet() {
        return plan.unmetSum(roster);
    }

    public int cost() {
        return plan.costOfAll(roster);
    }

    public int share(int person) throws IllegalArgumentException, ArithmeticException {
        refuseUnknownPerson(person);
        int all = plan.costOfAll(roster);
        if (all == 0) {
            throw new ArithmeticException("all cost 0");
        }
        // A thousand times the highest cost does not fit into an int.
        return (int) (1000L * plan.costOfOne(roster, person) / all);
    }

    public int publish() {
        int changed = 0;
        for (int day = 0; day < plan.days; day++) {
            for (int person = 0; person < plan.persons; person++) {
                int cell = cell(person, day);
                if (roster[cell] != published[cell]) {
                    changed++;
                }
            }
        }
        System.arraycopy(roster, 0, published, 0, CELLS);
        editions++;
        return changed;
    }

    public int count(int what) throws IllegalArgumentException {
        refuseUnknown(what, 0, 4);
        switch (what) {
            case 0:
                return plan.persons;
            case 1:
                return plan.days;
            case 2:
                return plan.wishes;
            case 3:
                return frozen;
            default:
                return editions;
        }
    }

    private void exchange(int cell, int otherCell) {
        int kept = roster[cell];
        roster[cell] = roster[otherCell];
        roster[otherCell] = kept;
    }

    private void refuseUnknownPerson(int person) {
        refuseUnknown(person, 0, plan.persons - 1);
    }

    private void refuseUnknownDay(int day) {
        refuseUnknown(day, 0, plan.days - 1);
    }

    private void refuseFrozen(int day) {
        if (day < frozen) {
            throw new IllegalStateException("the day is frozen");
        }
    }

    private static void refuseUnknown(int number, int first, int last) {
        if (number < first || number > last) {
            throw new IllegalArgumentException("an unknown number");
        }
    }

    private static void refuseSame(int person, int other) {
        if (person == other) {
            throw new IllegalArgumentException("the two persons are one");
        }
    }

    private static void refuseOutside(int number, int least, int most) {
        if (number < least || number > most) {
            throw new IndexOutOfBoundsException("a number outside its range");
        }
    }

    private static void refuseFull(int held, int most) {
        if (held >= most) {
            throw new UnsupportedOperationException("no room");
        }
    }

    private static int cell(int person, int day) {
        return day * MOST_PERSONS + person;
    }

    private static int choice(int person, int day, int shift) {
        return cell(person, day) * SHIFTS + shift;
    }

    private static int slot(int day, int shift) {
        return day * SHIFTS + shift;
    }

    private static void clearRow(int[] row) {
        for (int i = 0; i < row.length; i++) {
            row[i] = 0;
        }
    }

    /** What rosters are judged by: persons, days, needs, rules, bars and wishes. */
    private static final class Plan {
        private int persons;
        private int days;
        private int rest;
        private int most;
        private int nights;
        private int wishes;
        private final int[] skills;
        private final int[] rates;
        private final int[] needPersons;
        private final int[] needSkills;
        private final boolean[] barred;
        // Wishes are never taken back one by one, so the weight that each choice leaves unmet is all to keep of them.
        private final int[] missed;

        private Plan() {
            persons = 0;
            days = 0;
            rest = FIRST_REST;
            most = MOST_DAYS;
            nights = MOST_DAYS;
            wishes = 0;
            skills = new int[MOST_PERSONS];
            rates = new int[MOST_PERSONS];
            needPersons = new int[MOST_DAYS * SHIFTS];
            needSkills = new int[MOST_DAYS * SHIFTS];
            barred = new boolean[CELLS * SHIFTS];
            missed = new int[CELLS * SHIFTS];
        }

        private void startDays(int d) {
            days = d;
            wishes = 0;
            clearRow(needPersons);
            clearRow(needSkills);
            clearRow(missed);
            for (int i = 0; i < barred.length; i++) {
                barred[i] = false;
            }
        }

        private int addPerson(int skillBits, int rate) {
            int number = persons;
            skills[number] = skillBits;
            rates[number] = rate;
            persons++;
            return number;
        }

        private void putNeed(int day, int shift, int least, int skillBits) {
            needPersons[slot(day, shift)] = least;
            needSkills[slot(day, shift)] = skillBits;
        }

        private void putRules(int newRest, int newMost, int newNights) {
            rest = newRest;
            most = newMost;
            nights = newNights;
        }

        private int addWish(int firstChoice, int shift, boolean wants, int weight) {
            for (int other = OFF; other <= NIGHT; other++) {
                boolean met = (other == shift) == wants;
                if (!met) {
                    missed[firstChoice + other] += weight;
                }
            }
            int number = wishes;
            wishes++;
            return number;
        }

        private int firstFault(int[] shifts) {
            int fault = firstNeedFault(shifts);
            if (fault == 0) {
                fault = firstRestFault(shifts);
            }
            if (fault == 0) {
                fault = firstMostFault(shifts);
            }
            if (fault == 0) {
                fault = firstNightsFault(shifts);
            }
            return fault == 0 ? firstBarFault(shifts) : fault;
        }

        private int firstNeedFault(int[] shifts) {
            for (int day = 0; day < days; day++) {
                int shift = firstNeedUnmet(shifts, day);
                if (shift != OFF) {
                    return faultNumber(1, shift, day);
                }
            }
            return 0;
        }

        private int firstNeedUnmet(int[] shifts, int day) {
            for (int shift = EARLY; shift <= NIGHT; shift++) {
                if (!meetsNeed(shifts, day, shift)) {
                    return shift;
                }
            }
            return OFF;
        }

        private boolean meetsNeed(int[] shifts, int day, int shift) {
            int there = 0;
            int skillsThere = 0;
            for (int person = 0; person < persons; person++) {
                if (shifts[cell(person, day)] == shift) {
                    there++;
                    skillsThere |= skills[person];
                }
            }
            int asked = needSkills[slot(day, shift)];
            return there >= needPersons[slot(day, shift)] && (skillsThere & asked) == asked;
        }

        private int firstRestFault(int[] shifts) {
            for (int person = 0; person < persons; person++) {
                for (int day = 1; day < days; day++) {
                    if (breaksRest(shifts[cell(person, day - 1)], shifts[cell(person, day)])) {
                        return faultNumber(2, person, day);
                    }
                }
            }
            return 0;
        }

        private boolean breaksRest(int before, int shift) {
            return before != OFF && shift != OFF && hoursBetween(before, shift) < rest;
        }

        // Shifts follow one another by 8 hours, and the same shift on two days leaves 16 hours.
        private static int hoursBetween(int before, int shift) {
            return 2 * HOURS + HOURS * (shift - before);
        }

        private int firstMostFault(int[] shifts) {
            for (int person = 0; person < persons; person++) {
                int had = 0;
                int lastDay = 0;
                for (int day = 0; day < days; day++) {
                    if (shifts[cell(person, day)] != OFF) {
                        had++;
                        lastDay = day;
                    }
                }
                if (had > most) {
                    return faultNumber(3, person, lastDay);
                }
            }
            return 0;
        }

        private int firstNightsFault(int[] shifts) {
            for (int person = 0; person < persons; person++) {
                int row = 0;
                for (int day = 0; day < days; day++) {
                    row = shifts[cell(person, day)] == NIGHT ? row + 1 : 0;
                    if (row > nights) {
                        return faultNumber(4, person, day);
                    }
                }
            }
            return 0;
        }

        private int firstBarFault(int[] shifts) {
            for (int person = 0; person < persons; person++) {
                for (int day = 0; day < days; day++) {
                    if (barred[choice(person, day, shifts[cell(person, day)])]) {
                        return faultNumber(5, person, day);
                    }
                }
            }
            return 0;
        }

        private static int faultNumber(int kind, int whose, int day) {
            return 100 * kind + 10 * whose + day;
        }

        private int unmetSum(int[] shifts) {
            int sum = 0;
            for (int day = 0; day < days; day++) {
                for (int person = 0; person < persons; person++) {
                    sum += missed[choice(person, day, shifts[cell(person, day)])];
                }
            }
            return sum;
        }

        private int costOfAll(int[] shifts) {
            int sum = 0;
            for (int person = 0; person < persons; person++) {
                sum += costOfOne(shifts, person);
            }
            return sum;
        }

        private int costOfOne(int[] shifts, int person) {
            int had = 0;
            for (int day = 0; day < days; day++) {
                if (shifts[cell(person, day)] != OFF) {
                    had++;
                }
            }
            return had * HOURS * rates[person];
        }
    }

    /** The search for the best right roster, and what the latest one told. */
    private static final class Search {
        // A turn is a try, a way back from a cell that a try led to, the way back from the first cell, or the stop.
        private static final int MOST_TURNS = 2 * MOST_STEPS + 2;
        // Above every unmet sum that there can be.
        private static final int NO_BEST = MOST_WISHES * MOST_WEIGHT + 1;

        private final Plan plan;
        private final int[] best;
        private final int[] trial;
        private final int[] nextShift;
        private final int[] lastShift;
        // For the cell's person, how many shifts, and how many nights in a row, up to the cell's day.
        private final int[] shiftsHad;
        private final int[] nightsHad;
        // For all cells up to this one, in the order of the search.
        private final int[] unmetHad;
        private int limit;
        private int frozenDays;
        private int steps;
        private int rightOnes;
        private int bestUnmet;
        private boolean stopped;
        private boolean exact;

        private Search(Plan plan) {
            this.plan = plan;
            best = new int[CELLS];
            trial = new int[CELLS];
            nextShift = new int[CELLS];
            lastShift = new int[CELLS];
            shiftsHad = new int[CELLS];
            nightsHad = new int[CELLS];
            unmetHad = new int[CELLS];
            limit = 0;
            frozenDays = 0;
            steps = 0;
            rightOnes = 0;
            bestUnmet = NO_BEST;
            stopped = false;
            exact = false;
        }

        private void run(int[] roster, int frozen, int mostSteps) {
            System.arraycopy(roster, 0, trial, 0, CELLS);
            frozenDays = frozen;
            limit = mostSteps;
            steps = 0;
            rightOnes = 0;
            bestUnmet = NO_BEST;
            stopped = false;
            if (plan.persons == 0 || plan.days == 0) {
                takeOnlyRoster();
            } else {
                goThrough(roster);
            }
            exact = !stopped;
        }

        private void takeOnlyRoster() {
            if (plan.firstNeedFault(trial) == 0) {
                keepTrial(0);
            }
        }

        private void goThrough(int[] roster) {
            int day = 0;
            int person = 0;
            open(roster, person, day);
            for (int turn = 0; turn < MOST_TURNS && day >= 0 && !stopped; turn++) {
                int cell = cell(person, day);
                boolean lastOfDay = person == plan.persons - 1;
                if (nextShift[cell] > lastShift[cell]) {
                    day = person == 0 ? day - 1 : day;
                    person = person == 0 ? plan.persons - 1 : person - 1;
                } else if (steps >= limit) {
                    stopped = true;
                } else if (standsNext(person, day)) {
                    if (lastOfDay && day == plan.days - 1) {
                        keepTrial(unmetHad[cell]);
                    } else {
                        day = lastOfDay ? day + 1 : day;
                        person = lastOfDay ? 0 : person + 1;
                        open(roster, person, day);
                    }
                }
            }
        }

        private void open(int[] roster, int person, int day) {
            int cell = cell(person, day);
            boolean fixed = day < frozenDays;
            nextShift[cell] = fixed ? roster[cell] : OFF;
            lastShift[cell] = fixed ? roster[cell] : NIGHT;
        }

        private boolean standsNext(int person, int day) {
            int cell = cell(person, day);
            int shift = nextShift[cell];
            nextShift[cell]++;
            steps++;
            trial[cell] = shift;
            return keepsRules(person, day, shift)
                    && !plan.barred[choice(person, day, shift)]
                    && staysBelowBest(person, day, shift)
                    && (person < plan.persons - 1 || plan.firstNeedUnmet(trial, day) == OFF);
        }

        private boolean keepsRules(int person, int day, int shift) {
            int cell = cell(person, day);
            int dayBefore = cell(person, day - 1);
            int had = day == 0 ? 0 : shiftsHad[dayBefore];
            int row = day == 0 ? 0 : nightsHad[dayBefore];
            int before = day == 0 ? OFF : trial[dayBefore];
            shiftsHad[cell] = shift == OFF ? had : had + 1;
            nightsHad[cell] = shift == NIGHT ? row + 1 : 0;
            return shiftsHad[cell] <= plan.most && nightsHad[cell] <= plan.nights && !plan.breaksRest(before, shift);
        }

        private boolean staysBelowBest(int person, int day, int shift) {
            int cell = cell(person, day);
            unmetHad[cell] = unmetBefore(person, day) + plan.missed[choice(person, day, shift)];
            return unmetHad[cell] < bestUnmet;
        }

        private int unmetBefore(int person, int day) {
            if (person > 0) {
                return unmetHad[cell(person - 1, day)];
            }
            return day == 0 ? 0 : unmetHad[cell(plan.persons - 1, day - 1)];
        }

        private void keepTrial(int unmetSum) {
            System.arraycopy(trial, 0, best, 0, CELLS);
            bestUnmet = unmetSum;
            rightOnes++;
        }
    }
}
