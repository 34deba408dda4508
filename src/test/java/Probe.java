import java.util.function.Consumer;
import java.util.function.Function;

/**
 * All that calls can show of an object, hidden things too (needs, bars, rules, skills, wishes, the published roster).
 * It changes the object, so nothing comes behind it. It is made for up to 14 cells: then it stays within the 512 calls.
 */
final class Probe {
    private final RosterSolve x;
    private final int persons;
    private final int days;
    private final StringBuilder seen = new StringBuilder();

    private Probe(RosterSolve x) {
        this.x = x;
        persons = x.count(0);
        days = x.count(1);
    }

    static String of(RosterSolve x) {
        Probe probe = new Probe(x);
        probe.asIs();
        probe.solved();
        probe.needsAndWishes();
        probe.bars();
        probe.rulesOfOne();
        probe.skillsOfAll();
        probe.room();
        return probe.seen.toString();
    }

    private void tell(String name, int answer) {
        seen.append(name).append(' ').append(answer).append(' ');
    }

    private void ask(String name, Function<RosterSolve, Integer> call) {
        try {
            tell(name, call.apply(x));
        } catch (RuntimeException e) {
            seen.append(name).append(' ').append(e.getClass().getSimpleName()).append(' ');
        }
    }

    private void act(String name, Consumer<RosterSolve> call) {
        ask(name, y -> {
            call.accept(y);
            return 0;
        });
    }

    private void asIs() {
        for (int what = 2; what <= 4; what++) {
            tell("count", x.count(what));
        }
        for (int what = 0; what <= 2; what++) {
            tell("solved", x.solved(what));
        }
        seen.append(Check.shifts(x)).append(' ');
        tell("wrong", x.wrong());
        tell("unmet", x.unmet());
        tell("cost", x.cost());
        for (int person = 0; person < persons; person++) {
            int who = person;
            ask("share", y -> y.share(who));
        }
        tell("publish", x.publish());
    }

    private void solved() {
        tell("solve", x.solve(3000));
        for (int what = 0; what <= 2; what++) {
            tell("solved", x.solved(what));
        }
        seen.append(Check.shifts(x)).append(' ');
    }

    private void needsAndWishes() {
        for (int day = 0; day < days; day++) {
            for (int person = 0; person < persons; person++) {
                for (int shift = 3; shift >= 0; shift--) {
                    tryShift(person, day, shift);
                    tell("unmet", x.unmet());
                }
            }
        }
        ask("wish", y -> y.wish(0, days - 1, 0, true, 1));
    }

    private void tryShift(int person, int day, int shift) {
        act("set", y -> y.set(person, day, shift));
        tell("wrong", x.wrong());
    }

    private void bars() {
        for (int day = 0; day < days; day++) {
            for (int shift = 1; shift <= 3; shift++) {
                x.need(day, shift, 0, 0);
            }
        }
        for (int day = x.count(3); day < days; day++) {
            for (int person = 0; person < persons; person++) {
                for (int shift = 1; shift <= 3; shift++) {
                    tryShift(person, day, shift);
                }
                x.set(person, day, 0);
            }
        }
    }

    /** Days forget all but the rules, so that these are seen alone. */
    private void rulesOfOne() {
        x.days(7);
        for (int before = 3; before >= 1 && persons > 0; before--) {
            x.set(0, 0, before);
            for (int shift = 1; shift <= 3; shift++) {
                tryShift(0, 1, shift);
            }
        }
        for (int day = 0; day < 7 && persons > 0; day++) {
            tryShift(0, day, 3);
        }
    }

    private void skillsOfAll() {
        x.days(1);
        for (int person = 0; person < persons; person++) {
            x.set(person, 0, 2);
            tell("cost", x.cost());
            for (int skill = 1; skill <= 8; skill *= 2) {
                x.need(0, 2, 0, skill);
                tell("wrong", x.wrong());
            }
            x.set(person, 0, 0);
        }
    }

    private void room() {
        ask("person", y -> y.person(0, 0));
        tell("publish", x.publish());
    }
}
