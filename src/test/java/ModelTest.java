import java.util.Arrays;
import java.util.Random;

/** Long runs of drawn calls, each answered by the class and by the plain model of the document. */
public final class ModelTest {
    private static final int RUNS = 4000;
    // The document promises nothing of an object behind its 512th call, and two looks of some 55 calls may yet follow.
    private static final int CALLS = 512 - 120;
    private static final String[] NAMES = {
        "days", "person", "need", "need", "rules", "bar", "bar", "wish", "wish", "wish", "freeze", "set", "set", "set",
        "solve", "solve", "swap", "swap", "swap", "publish", "share", "count", "solved",
    };

    private final Random draw;
    private final Check check;
    private final RosterSolve x = new RosterSolve();
    private final Model model = new Model();
    private final StringBuilder told = new StringBuilder();
    private int calls = 0;
    private int days = 0;
    private int persons = 0;

    private ModelTest(long seed, Check check) {
        draw = new Random(seed);
        this.check = check;
    }

    public static void main(String[] args) {
        Check check = new Check();
        for (int seed = 0; seed < RUNS; seed++) {
            if (!new ModelTest(seed, check).runsAlike()) {
                break;
            }
        }
        check.end("ModelTest");
    }

    private boolean runsAlike() {
        int most = 1 + draw.nextInt(6);
        for (int i = 0; calls < CALLS; i++) {
            String name = i == 0 ? "days" : i <= most ? "person" : NAMES[draw.nextInt(NAMES.length)];
            // Days and persons that come too often would leave nothing else to look at.
            if (i > most && (name.equals("days") || name.equals("person")) && draw.nextInt(12) > 0) {
                name = "set";
            }
            boolean looks = name.equals("solve") || draw.nextInt(20) == 0;
            if (!alike(name, arguments(name)) || !alike("wrong") || looks && !looksAlike()) {
                return false;
            }
        }
        return looksAlike();
    }

    private boolean looksAlike() {
        boolean same = alike("unmet") && alike("cost");
        for (int what = 0; what <= 4 && same; what++) {
            same = alike("count", what);
        }
        for (int what = 0; what <= 2 && same; what++) {
            same = alike("solved", what);
        }
        for (int person = 0; person < persons && same; person++) {
            for (int day = 0; day < days && same; day++) {
                same = alike("shift", person, day);
            }
        }
        return same && alike("shift", number(6), number(7));
    }

    private boolean alike(String name, int... a) {
        calls++;
        String want = model.call(name, a);
        String got = answer(name, a);
        if (name.equals("days") && want.equals("void")) {
            days = a[0];
        }
        if (name.equals("person") && !want.startsWith("throws")) {
            persons++;
        }
        told.append(name).append(Arrays.toString(a)).append(' ').append(want).append('\n');
        if (!got.equals(want)) {
            System.out.println(told);
        }
        check.due(name + Arrays.toString(a), got, want);
        return got.equals(want);
    }

    private int[] arguments(String name) {
        boolean on = draw.nextInt(3) > 0;
        switch (name) {
            case "days": return new int[] {draw.nextInt(3) == 0 ? number(7) : 1 + draw.nextInt(7)};
            case "person": return new int[] {number(15), draw.nextInt(9) == 0 ? 10001 : draw.nextInt(5) * 777};
            case "need": return new int[] {day(), 1 + number(2), few(), draw.nextInt(3) > 0 ? 0 : number(15)};
            case "rules": return new int[] {number(24), few(7), few(7)};
            case "bar": return new int[] {person(), day(), 1 + number(2), on ? 1 : 0};
            case "wish": return new int[] {person(), day(), number(3), on ? 1 : 0, number(100)};
            case "freeze": return new int[] {draw.nextInt(9) > 0 ? draw.nextInt(2) : number(days)};
            case "set": return new int[] {person(), day(), draw.nextInt(2) * number(3)};
            case "solve": return new int[] {steps()};
            case "swap": return new int[] {person(), person(), day()};
            case "share": return new int[] {person()};
            case "count": return new int[] {number(4)};
            case "solved": return new int[] {number(2)};
            default: return new int[0];
        }
    }

    /** Mostly within 0 .. most, now and then just outside or far away. */
    private int number(int most) {
        int way = draw.nextInt(60);
        if (way == 0) {
            return -1 - draw.nextInt(2);
        }
        if (way == 1) {
            return most + 1 + draw.nextInt(2);
        }
        if (way == 2) {
            return draw.nextInt();
        }
        return draw.nextInt(most + 1);
    }

    private int person() {
        return number(Math.max(0, persons - 1));
    }

    private int day() {
        return number(Math.max(0, days - 1));
    }

    private int few() {
        return draw.nextInt(10) == 0 ? number(6) : draw.nextInt(2);
    }

    private int few(int most) {
        return draw.nextInt(3) == 0 ? number(most) : 2 + draw.nextInt(6);
    }

    private int steps() {
        int way = draw.nextInt(8);
        if (way == 0) {
            return number(20000);
        }
        return way < 5 ? draw.nextInt(300) : draw.nextInt(30);
    }

    private String answer(String name, int[] a) {
        try {
            return called(name, a);
        } catch (RuntimeException e) {
            return "throws." + e.getClass().getSimpleName();
        }
    }

    private String called(String name, int[] a) {
        switch (name) {
            case "days": x.days(a[0]); return "void";
            case "person": return "" + x.person(a[0], a[1]);
            case "need": x.need(a[0], a[1], a[2], a[3]); return "void";
            case "rules": x.rules(a[0], a[1], a[2]); return "void";
            case "bar": x.bar(a[0], a[1], a[2], a[3] != 0); return "void";
            case "wish": return "" + x.wish(a[0], a[1], a[2], a[3] != 0, a[4]);
            case "freeze": x.freeze(a[0]); return "void";
            case "set": x.set(a[0], a[1], a[2]); return "void";
            case "solve": return "" + x.solve(a[0]);
            case "solved": return "" + x.solved(a[0]);
            case "swap": x.swap(a[0], a[1], a[2]); return "void";
            case "shift": return "" + x.shift(a[0], a[1]);
            case "wrong": return "" + x.wrong();
            case "unmet": return "" + x.unmet();
            case "cost": return "" + x.cost();
            case "share": return "" + x.share(a[0]);
            case "publish": return "" + x.publish();
            case "count": return "" + x.count(a[0]);
            default: throw new AssertionError(name);
        }
    }
}
