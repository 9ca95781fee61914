import java.util.List;
import java.util.Random;

/** Holds the class against the Model on PROGRAMS, SHEETS and CHANGES by chance (always the same chance). */
public final class ModelTest {
    private static final int NONE = NearEnough.NONE;

    private final Random random;
    private final Model model;
    private final NearEnough x;
    private final String text;

    private ModelTest(int seed, int mostSteps) {
        random = new Random(seed);
        model = Model.random(random, mostSteps);
        text = "seed " + seed + ": " + model.text() + " : ";
        x = Check.told(model.text());
    }

    public static void main(String[] args) {
        for (int seed = 0; seed < 1500; seed++) {
            ModelTest test = new ModelTest(seed, 12);
            test.fill(4, 6);
            test.compareAll();
            test.fill(2, 2);
            test.compareAll();
        }
        for (int seed = 5000; seed < 5012; seed++) {
            ModelTest test = new ModelTest(seed, 12);
            test.fill(20, 10);
            test.compareAll();
        }
        Check.finish();
    }

    private void due(String call, long got, long want) {
        Check.due(text + call, got, want);
    }

    private void fill(int mostSheets, int mostChanges) {
        int sheets = random.nextInt(mostSheets + 1);
        for (int i = 0; i < sheets; i++) {
            boolean kept = random.nextBoolean();
            int sheet = model.sheet(kept);
            due("sheet", x.sheet(kept), sheet);
            for (int row = 0; row < model.rows.size(); row++) {
                fillRow(sheet, row);
            }
        }
        int changes = random.nextInt(mostChanges + 1);
        for (int tries = 0; tries < 12 * changes && model.changes.size() < 12; tries++) {
            tryChange();
        }
        if (!model.ends.isEmpty() && model.guards.size() < 4) {
            int[] guard = {random.nextInt(model.ends.size()), random.nextInt(model.steps.size()),
                random.nextInt(random.nextBoolean() ? 30 : 10000)};
            due("guard", x.guard(guard[0], guard[1], guard[2]), model.guards.size());
            model.guards.add(guard);
        }
    }

    private void fillRow(int sheet, int row) {
        int[] its = model.rows.get(row);
        for (int place = 0; place < its[0]; place++) {
            if (random.nextInt(4) != 0) {
                int number = its[1] + random.nextInt(its[2] - its[1] + 1);
                model.sheets.get(sheet)[row][place] = number;
                due("put", x.put(sheet, row, place, number) ? 1 : 0, 1);
            }
        }
    }

    private void tryChange() {
        int step = random.nextInt(model.steps.size());
        int kind = random.nextInt(7);
        int n = random.nextInt(kind == 3 && random.nextBoolean() ? 100 : kind == 1 ? 12 : 7);
        int saves = random.nextInt(random.nextBoolean() ? 4 : 1000);
        boolean can = model.canChange(step, kind, n);
        int due = can ? model.changes.size() : NONE;
        due("change " + step + " " + kind + " " + n, x.change(step, kind, n, saves), due);
        if (can) {
            model.changes.add(new int[] {step, kind, n, saves});
        }
    }

    private void compareAll() {
        for (int step = 0; step < model.steps.size(); step++) {
            due("span", x.span(step, false), model.spans.get(step)[0]);
            due("span", x.span(step, true), model.spans.get(step)[1]);
        }
        for (int i = 0; i < 6; i++) {
            compareChoice(random.nextInt(1 << model.changes.size()));
        }
        due("best", x.best(), model.best());
        for (int end = 0; end < model.ends.size(); end++) {
            compareFront(end);
            comparePlan(end, random.nextInt(random.nextBoolean() ? 12 : 401));
        }
    }

    private void compareChoice(int choice) {
        String by = " by " + choice;
        boolean can = model.canBe(choice);
        int barred = can ? model.barred(choice) : -2;
        due("barred" + by, x.barred(choice), barred);
        due("saved" + by, x.saved(choice), can ? model.saved(choice) : NONE);
        due("ticks" + by, x.ticks(choice), can ? model.ticks(choice) : NONE);
        due("let" + by, x.let(choice), can ? (model.let(choice) ? 1 : 0) : NONE);
        boolean stands = barred == NONE;
        List<long[]> shown = stands ? model.shown(choice) : null;
        for (int step = 0; step < model.steps.size(); step++) {
            due("e" + by, x.error(step, choice, false), stands ? shown.get(step)[0] : Check.NO_ERROR);
            due("f" + by, x.error(step, choice, true), stands ? shown.get(step)[1] : Check.NO_ERROR);
            for (int sheet = 0; sheet < model.sheets.size(); sheet++) {
                long value = stands ? model.onSheet(sheet, choice)[step] : NONE;
                due("value " + step + " " + sheet + by, x.value(step, sheet, choice), value);
                if (stands) {
                    long error = model.error(step, sheet, choice);
                    due("sound" + by, error >= shown.get(step)[0] && error <= shown.get(step)[1] ? 1 : 0, 1);
                }
            }
        }
        for (int end = 0; end < model.ends.size(); end++) {
            compareEnd(end, choice, stands, by + " of END " + end);
        }
    }

    private void compareEnd(int end, int choice, boolean stands, String by) {
        due("off" + by, x.off(end, choice), stands ? model.off(end, choice) : NONE);
        due("measured" + by, x.measured(end, choice), stands ? model.measured(end, choice) : NONE);
        due("passed" + by, x.passed(end, choice), stands ? model.passed(end, choice) : NONE);
        due("through" + by, x.through(end, choice), stands ? model.through(end, choice) : NONE);
        due("turned" + by, x.turned(end, choice), stands ? model.turned(end, choice) : NONE);
        long upper = x.mean(end, choice, 0);
        long lower = x.mean(end, choice, 1);
        if (stands && !model.sheets.isEmpty()) {
            due("mean" + by, upper * model.sheets.size(), model.wrongTogether(end, choice) * lower);
            due("lowest terms" + by, gcd(upper, lower), 1);
        } else {
            due("no mean" + by, upper, NONE);
            due("no mean" + by, lower, NONE);
        }
        if (random.nextInt(6) == 0) {
            long[] worst = stands ? model.worst(end, choice) : new long[] {Check.NO_ERROR, Check.NO_ERROR};
            due("worst" + by, x.worst(end, choice, 0), worst[0]);
            due("its bits" + by, x.worst(end, choice, 1), worst[1]);
        }
        if (!model.sheets.isEmpty()) {
            compareOnSheet(end, random.nextInt(model.sheets.size()), choice, stands, by);
        }
    }

    private static long gcd(long a, long b) {
        return b == 0 ? a : gcd(b, a % b);
    }

    private void compareOnSheet(int end, int sheet, int choice, boolean stands, String by) {
        for (int change = 0; change < model.changes.size(); change++) {
            int ahead = choice & (1 << change) - 1;
            int with = ahead | 1 << change;
            long due = Check.NO_ERROR;
            if (model.canBe(choice) && (choice >> change & 1) == 1 && model.barred(ahead) == NONE
                    && model.barred(with) == NONE) {
                int step = model.ends.get(end)[0];
                due = model.error(step, sheet, with) - model.error(step, sheet, ahead);
            }
            due("led " + change + by, x.led(end, sheet, choice, change), due);
        }
        int much = random.nextInt(random.nextBoolean() ? 30 : 100000);
        x.purse(much);
        long spent = stands ? model.wrong(end, sheet, choice) : 0;
        long left = !stands ? NONE : spent > much ? -2 : much - spent;
        due("day" + by, x.day(end, sheet, choice), left);
        due("left" + by, x.about(6), left >= 0 ? left : much);
    }

    private void compareFront(int end) {
        List<long[]> front = model.front(end);
        due("front", x.front(end), front.size());
        for (int i = 0; i < front.size(); i++) {
            due("pair", x.pair(end, i, 0), front.get(i)[0]);
            due("pair", x.pair(end, i, 1), front.get(i)[1]);
        }
        due("no pair", x.pair(end, front.size(), 0), NONE);
    }

    private void comparePlan(int end, int much) {
        int[] plan = model.plan(end, much);
        due("plan for " + much, x.plan(end, much), plan[0]);
        for (int sheet = 0; sheet < model.sheets.size(); sheet++) {
            due("planned for " + much, x.planned(end, much, sheet), plan[sheet + 1]);
        }
    }
}
