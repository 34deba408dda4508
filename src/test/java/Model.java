import java.util.ArrayList;
import java.util.List;

/** The document's words once more, as plainly as can be: all is kept as it was told, and judged anew each time. */
final class Model {
    private record Wish(int person, int day, int shift, boolean wants, int weight) {
    }

    private final List<int[]> persons = new ArrayList<>();
    private final List<Wish> wishes = new ArrayList<>();
    private int days = 0;
    private int[][] needs = new int[7][8];
    private boolean[][][] bars = new boolean[6][7][4];
    private int[][] roster = new int[6][7];
    private int[][] published = new int[6][7];
    private int rest = 11;
    private int most = 7;
    private int nights = 7;
    private int frozen = 0;
    private int editions = 0;
    private int exact = 0;
    private int steps = 0;
    private int found = 0;

    private int limit;
    private boolean stopped;
    private int[][] trial;
    private int[][] best;
    private int bestSum;

    /** The answer as a text: a number, "void" or the exception's name behind "throws.". */
    String call(String name, int[] a) {
        switch (name) {
            case "days": return days(a[0]);
            case "person": return person(a[0], a[1]);
            case "need": return need(a[0], a[1], a[2], a[3]);
            case "rules": return rules(a[0], a[1], a[2]);
            case "bar": return bar(a[0], a[1], a[2], a[3] != 0);
            case "wish": return wish(new Wish(a[0], a[1], a[2], a[3] != 0, a[4]));
            case "freeze": return freeze(a[0]);
            case "set": return set(a[0], a[1], a[2]);
            case "solve": return solve(a[0]);
            case "solved": return a[0] < 0 || a[0] > 2 ? unknown() : "" + new int[] {exact, steps, found}[a[0]];
            case "swap": return swap(a[0], a[1], a[2]);
            case "shift": return noPerson(a[0]) || noDay(a[1]) ? unknown() : "" + roster[a[0]][a[1]];
            case "wrong": return "" + fault(roster);
            case "unmet": return "" + sum(roster, 5, 6);
            case "cost": return "" + cost(0, 5);
            case "share": return share(a[0]);
            case "publish": return publish();
            case "count":
                return a[0] < 0 || a[0] > 4 ? unknown()
                    : "" + new int[] {persons.size(), days, wishes.size(), frozen, editions}[a[0]];
            default: throw new IllegalStateException(name);
        }
    }

    private static String unknown() {
        return "throws.IllegalArgumentException";
    }

    private static String range() {
        return "throws.IndexOutOfBoundsException";
    }

    private static String state() {
        return "throws.IllegalStateException";
    }

    private static String room() {
        return "throws.UnsupportedOperationException";
    }

    private boolean noPerson(int person) {
        return person < 0 || person >= persons.size();
    }

    private boolean noDay(int day) {
        return day < 0 || day >= days;
    }

    private String days(int d) {
        if (d < 0 || d > 7) {
            return range();
        }
        days = d;
        needs = new int[7][8];
        bars = new boolean[6][7][4];
        roster = new int[6][7];
        wishes.clear();
        frozen = 0;
        return "void";
    }

    private String person(int skills, int rate) {
        if (skills < 0 || skills > 15 || rate < 0 || rate > 10000) {
            return range();
        }
        if (persons.size() == 6) {
            return room();
        }
        persons.add(new int[] {skills, rate});
        return "" + (persons.size() - 1);
    }

    private String need(int day, int shift, int count, int skills) {
        if (noDay(day) || shift < 1 || shift > 3) {
            return unknown();
        }
        if (count < 0 || count > 6 || skills < 0 || skills > 15) {
            return range();
        }
        needs[day][shift] = count;
        needs[day][shift + 4] = skills;
        return "void";
    }

    private String rules(int newRest, int newMost, int newNights) {
        if (newRest < 0 || newRest > 24 || newMost < 0 || newMost > 7 || newNights < 0 || newNights > 7) {
            return range();
        }
        rest = newRest;
        most = newMost;
        nights = newNights;
        return "void";
    }

    private String bar(int person, int day, int shift, boolean on) {
        if (noPerson(person) || noDay(day) || shift < 1 || shift > 3) {
            return unknown();
        }
        bars[person][day][shift] = on;
        return "void";
    }

    private String wish(Wish wish) {
        if (noPerson(wish.person) || noDay(wish.day) || wish.shift < 0 || wish.shift > 3) {
            return unknown();
        }
        if (wish.weight < 1 || wish.weight > 100) {
            return range();
        }
        if (wish.day < frozen) {
            return state();
        }
        if (wishes.size() == 20) {
            return room();
        }
        wishes.add(wish);
        return "" + (wishes.size() - 1);
    }

    private String freeze(int below) {
        if (below < frozen || below > days) {
            return range();
        }
        frozen = below;
        return "void";
    }

    private String set(int person, int day, int shift) {
        if (noPerson(person) || noDay(day) || shift < 0 || shift > 3) {
            return unknown();
        }
        if (day < frozen) {
            return state();
        }
        roster[person][day] = shift;
        return "void";
    }

    private String swap(int person, int other, int day) {
        if (noPerson(person) || noPerson(other) || person == other || noDay(day)) {
            return unknown();
        }
        if (day < frozen) {
            return state();
        }
        int[][] swapped = copy(roster);
        swapped[person][day] = roster[other][day];
        swapped[other][day] = roster[person][day];
        if (fault(swapped) != 0) {
            return state();
        }
        roster = swapped;
        return "void";
    }

    private String share(int person) {
        if (noPerson(person)) {
            return unknown();
        }
        if (cost(0, 5) == 0) {
            return "throws.ArithmeticException";
        }
        return "" + 1000L * cost(person, person) / cost(0, 5);
    }

    private String publish() {
        int changed = 0;
        for (int person = 0; person < persons.size(); person++) {
            for (int day = 0; day < days; day++) {
                changed += roster[person][day] == published[person][day] ? 0 : 1;
            }
        }
        published = new int[6][7];
        for (int person = 0; person < persons.size(); person++) {
            for (int day = 0; day < days; day++) {
                published[person][day] = roster[person][day];
            }
        }
        editions++;
        return "" + changed;
    }

    private int cost(int first, int last) {
        int cents = 0;
        for (int person = first; person <= last && person < persons.size(); person++) {
            for (int day = 0; day < days; day++) {
                cents += roster[person][day] == 0 ? 0 : 8 * persons.get(person)[1];
            }
        }
        return cents;
    }

    /** The wishes about all days before this one, and about persons up to this one on this day. */
    private int sum(int[][] r, int person, int day) {
        int sum = 0;
        for (Wish wish : wishes) {
            boolean reached = wish.day < day || wish.day == day && wish.person <= person;
            boolean has = r[wish.person][wish.day] == wish.shift;
            sum += reached && has != wish.wants ? wish.weight : 0;
        }
        return sum;
    }

    private int fault(int[][] r) {
        for (int day = 0; day < days; day++) {
            for (int shift = 1; shift <= 3; shift++) {
                if (needMissing(r, day, shift)) {
                    return 100 + 10 * shift + day;
                }
            }
        }
        for (int kind = 2; kind <= 5; kind++) {
            for (int person = 0; person < persons.size(); person++) {
                int day = kind == 3 ? dayOfTooMany(r, person) : dayOfFault(r, kind, person, days - 1);
                if (day >= 0) {
                    return 100 * kind + 10 * person + day;
                }
            }
        }
        return 0;
    }

    private boolean needMissing(int[][] r, int day, int shift) {
        int there = 0;
        for (int person = 0; person < persons.size(); person++) {
            there += r[person][day] == shift ? 1 : 0;
        }
        boolean missing = there < needs[day][shift];
        for (int bit = 1; bit <= 8; bit *= 2) {
            boolean held = false;
            for (int person = 0; person < persons.size(); person++) {
                held |= r[person][day] == shift && (persons.get(person)[0] & bit) != 0;
            }
            missing |= (needs[day][shift + 4] & bit) != 0 && !held;
        }
        return missing;
    }

    private int dayOfTooMany(int[][] r, int person) {
        int had = 0;
        int lastDay = -1;
        for (int day = 0; day < days; day++) {
            if (r[person][day] != 0) {
                had++;
                lastDay = day;
            }
        }
        return had > most ? lastDay : -1;
    }

    private int dayOfFault(int[][] r, int kind, int person, int upTo) {
        for (int day = 0; day <= upTo; day++) {
            int shift = r[person][day];
            boolean faulty = switch (kind) {
                case 2 -> day > 0 && shift != 0 && r[person][day - 1] != 0
                    && 24 + begin(shift) - (begin(r[person][day - 1]) + 8) < rest;
                case 4 -> nightsUpTo(r, person, day) > nights;
                default -> bars[person][day][shift];
            };
            if (faulty) {
                return day;
            }
        }
        return -1;
    }

    private static int begin(int shift) {
        return new int[] {0, 6, 14, 22}[shift];
    }

    private static int nightsUpTo(int[][] r, int person, int day) {
        int row = 0;
        while (day - row >= 0 && r[person][day - row] == 3) {
            row++;
        }
        return row;
    }

    private String solve(int mostSteps) {
        if (mostSteps < 0 || mostSteps > 20000) {
            return range();
        }
        limit = mostSteps;
        steps = 0;
        found = 0;
        stopped = false;
        best = null;
        trial = new int[6][7];
        if (persons.isEmpty() || days == 0) {
            if (fault(roster) == 0) {
                found = 1;
                best = copy(roster);
                bestSum = 0;
            }
        } else {
            place(0, 0);
        }
        exact = stopped ? 0 : 1;
        if (best == null) {
            return "-1";
        }
        roster = best;
        return "" + bestSum;
    }

    private void place(int person, int day) {
        if (person == persons.size()) {
            place(0, day + 1);
            return;
        }
        if (day == days) {
            found++;
            best = copy(trial);
            bestSum = sum(trial, 5, 6);
            return;
        }
        for (int shift = 0; shift <= 3; shift++) {
            if (day < frozen && shift != roster[person][day]) {
                continue;
            }
            if (stopped || steps == limit) {
                stopped = true;
                return;
            }
            steps++;
            trial[person][day] = shift;
            if (!givenUp(person, day)) {
                place(person + 1, day);
            }
            trial[person][day] = 0;
        }
    }

    private boolean givenUp(int person, int day) {
        int had = 0;
        for (int d = 0; d <= day; d++) {
            had += trial[person][d] == 0 ? 0 : 1;
        }
        boolean up = had > most;
        up |= dayOfFault(trial, 2, person, day) >= 0;
        up |= dayOfFault(trial, 4, person, day) >= 0;
        up |= dayOfFault(trial, 5, person, day) >= 0;
        up |= best != null && sum(trial, person, day) >= bestSum;
        for (int shift = 1; shift <= 3; shift++) {
            up |= person == persons.size() - 1 && needMissing(trial, day, shift);
        }
        return up;
    }

    private static int[][] copy(int[][] r) {
        int[][] copied = new int[6][];
        for (int person = 0; person < 6; person++) {
            copied[person] = r[person].clone();
        }
        return copied;
    }
}
