import java.util.ArrayList;
import java.util.Arrays;
import java.util.List;
import java.util.Random;
import java.util.TreeMap;

/** The document's terms once more, as plainly and slowly as can be: what the class is held against. */
final class Model {
    private static final String[] KINDS = {"sum", "most", "add", "less", "times", "scale", "at", "pick"};
    private static final String[] END_KINDS = {"never", "mean", "one"};
    private static final long LIMIT = 1000000000L;

    /** {has, least, greatest}. */
    final List<int[]> rows = new ArrayList<>();
    /** {kind, row, a, b, c, d, by, over}. */
    final List<int[]> steps = new ArrayList<>();
    final List<long[]> spans = new ArrayList<>();
    /** {step, off, kind}. */
    final List<int[]> ends = new ArrayList<>();
    final List<int[][]> sheets = new ArrayList<>();
    final List<Boolean> kept = new ArrayList<>();
    /** {step, kind, n, saves}. */
    final List<int[]> changes = new ArrayList<>();
    /** {end, step, within}. */
    final List<int[]> guards = new ArrayList<>();

    static Model random(Random random, int mostSteps) {
        Model model = new Model();
        int rows = 1 + random.nextInt(2);
        int reach = random.nextInt(4) == 0 ? 999 : 12;
        for (int i = 0; i < rows; i++) {
            int one = random.nextInt(2 * reach + 1) - reach;
            int other = random.nextInt(2 * reach + 1) - reach;
            model.rows.add(new int[] {1 + random.nextInt(6), Math.min(one, other), Math.max(one, other)});
        }
        int steps = 1 + random.nextInt(mostSteps);
        for (int tries = 0; tries < 100 && model.steps.size() < steps; tries++) {
            model.tell(random);
        }
        int ends = random.nextInt(5);
        for (int i = 0; i < ends; i++) {
            int step = random.nextInt(model.steps.size());
            if (model.ends.stream().noneMatch(end -> end[0] == step)) {
                int off = random.nextInt(random.nextBoolean() ? 20 : 10000);
                model.ends.add(new int[] {step, off, random.nextInt(3)});
            }
        }
        return model;
    }

    private void tell(Random random) {
        int told = steps.size();
        int kind = told == 0 ? random.nextInt(2) : random.nextInt(8);
        int[] step = new int[8];
        step[0] = kind;
        step[1] = random.nextInt(rows.size());
        for (int i = 2; i < 6; i++) {
            step[i] = told == 0 ? 0 : random.nextInt(told);
        }
        step[6] = random.nextInt(199) - 99;
        step[7] = 1 + random.nextInt(random.nextBoolean() ? 99 : 5);
        long[] span = spanOf(step);
        if (span[0] >= -LIMIT && span[1] <= LIMIT) {
            steps.add(step);
            spans.add(span);
        }
    }

    private static long[] hull(long... numbers) {
        return new long[] {Arrays.stream(numbers).min().getAsLong(), Arrays.stream(numbers).max().getAsLong()};
    }

    private static long[] products(long[] p, long[] q) {
        return hull(p[0] * q[0], p[0] * q[1], p[1] * q[0], p[1] * q[1]);
    }

    private static long[] together(long[] p, long[] q) {
        return new long[] {p[0] + q[0], p[1] + q[1]};
    }

    private static long[] lessOther(long[] p, long[] q) {
        return new long[] {p[0] - q[1], p[1] - q[0]};
    }

    private static long[] either(long[] p, long[] q) {
        return new long[] {Math.min(p[0], q[0]), Math.max(p[1], q[1])};
    }

    private long[] spanOf(int[] step) {
        int[] row = rows.get(step[1]);
        switch (KINDS[step[0]]) {
            case "sum": return new long[] {(long) row[0] * row[1], (long) row[0] * row[2]};
            case "most":
            case "at": return new long[] {row[1], row[2]};
            case "add": return together(spans.get(step[2]), spans.get(step[3]));
            case "less": return lessOther(spans.get(step[2]), spans.get(step[3]));
            case "times": return products(spans.get(step[2]), spans.get(step[3]));
            case "scale":
                long[] span = spans.get(step[2]);
                return hull(span[0] * step[6] / step[7], span[1] * step[6] / step[7]);
            default: return either(spans.get(step[2]), spans.get(step[3]));
        }
    }

    private static String rowName(int row) {
        return row == 0 ? "r" : "q";
    }

    private static String name(int step) {
        return "x" + (char) ('a' + step);
    }

    String text() {
        StringBuilder text = new StringBuilder();
        for (int i = 0; i < rows.size(); i++) {
            int[] row = rows.get(i);
            text.append("row ").append(rowName(i)).append(" has ").append(row[0]).append(" from ").append(row[1])
                    .append(" to ").append(row[2]).append(";");
        }
        for (int i = 0; i < steps.size(); i++) {
            text.append(line(i));
        }
        for (int[] end : ends) {
            text.append("end ").append(name(end[0])).append(" off ").append(end[1]).append(" ")
                    .append(END_KINDS[end[2]]).append(";");
        }
        return text.toString();
    }

    private String line(int i) {
        int[] step = steps.get(i);
        String kind = KINDS[step[0]];
        String start = kind + " " + name(i) + " ";
        String a = name(step[2]);
        String b = name(step[3]);
        switch (kind) {
            case "sum":
            case "most": return start + "of " + rowName(step[1]) + ";\n";
            case "scale": return start + a + " by " + step[6] + " over " + step[7] + ";";
            case "at": return start + rowName(step[1]) + " place " + a + ";";
            case "pick": return start + a + " " + b + " if " + name(step[4]) + " under " + name(step[5]) + ";";
            default: return start + a + " " + b + ";";
        }
    }

    int sheet(boolean keptBack) {
        int[][] numbers = new int[rows.size()][];
        for (int i = 0; i < numbers.length; i++) {
            numbers[i] = new int[rows.get(i)[0]];
            Arrays.fill(numbers[i], rows.get(i)[1]);
        }
        sheets.add(numbers);
        kept.add(keptBack);
        return sheets.size() - 1;
    }

    boolean canChange(int step, int kind, int n) {
        String its = KINDS[steps.get(step)[0]];
        boolean gathers = its.equals("sum") || its.equals("most");
        switch (kind) {
            case 0: return its.equals("sum") && n >= 2 && n <= 6;
            case 1: return n >= 1 && n <= 10;
            case 2: return its.equals("pick") && (n == 0 || n == 1);
            case 3: return (gathers || its.equals("at")) && n >= 2 && n <= 99;
            case 4: return n == 0;
            case 5: return gathers && n >= 1 && n <= 5;
            case 6: return (gathers || its.equals("at")) && n == 0;
            default: return false;
        }
    }

    boolean canBe(int choice) {
        if (choice < 0 || choice >= 1 << changes.size()) {
            return false;
        }
        for (int i = 0; i < changes.size(); i++) {
            for (int j = 0; j < i; j++) {
                boolean both = (choice >> i & 1) == 1 && (choice >> j & 1) == 1;
                if (both && changes.get(i)[0] == changes.get(j)[0]) {
                    return false;
                }
            }
        }
        return true;
    }

    private int[] changeOf(int step, int choice) {
        for (int i = 0; i < changes.size(); i++) {
            if ((choice >> i & 1) == 1 && changes.get(i)[0] == step) {
                return changes.get(i);
            }
        }
        return new int[] {step, -1, 0, 0};
    }

    long[] values(int[][] numbers, int[][] old, int choice) {
        long[] values = new long[steps.size()];
        for (int i = 0; i < values.length; i++) {
            int[] step = steps.get(i);
            int[] change = changeOf(i, choice);
            if (change[1] == 4) {
                values[i] = middle(i);
                continue;
            }
            int[] row = (change[1] == 6 ? old : numbers)[step[1]].clone();
            if (change[1] == 3) {
                for (int k = 0; k < row.length; k++) {
                    row[k] = Math.floorDiv(row[k], change[2]) * change[2];
                }
            }
            if (change[1] == 5) {
                row = Arrays.copyOf(row, Math.min(row.length, change[2]));
            }
            values[i] = plainly(step, row, values, change);
            if (change[1] == 1) {
                values[i] = Math.floorDiv(values[i], 1L << change[2]) * (1L << change[2]);
            }
        }
        return values;
    }

    private long middle(int step) {
        return Math.floorDiv(spans.get(step)[0] + spans.get(step)[1], 2L);
    }

    private long plainly(int[] step, int[] row, long[] values, int[] change) {
        long a = values[step[2]];
        long b = values[step[3]];
        switch (KINDS[step[0]]) {
            case "sum":
                if (change[1] == 0) {
                    long sum = 0;
                    int taken = 0;
                    for (int place = 0; place < row.length; place++) {
                        if (place % change[2] == 0) {
                            sum += row[place];
                            taken++;
                        }
                    }
                    return sum * row.length / taken;
                }
                return Arrays.stream(row).sum();
            case "most": return Arrays.stream(row).max().getAsInt();
            case "add": return a + b;
            case "less": return a - b;
            case "times": return a * b;
            case "scale": return a * step[6] / step[7];
            case "at": return row[(int) Math.floorMod(a, (long) row.length)];
            default:
                boolean first = change[1] == 2 ? change[2] == 0 : values[step[4]] < values[step[5]];
                return first ? a : b;
        }
    }

    long[] onSheet(int sheet, int choice) {
        return values(sheets.get(sheet), sheets.get(Math.max(0, sheet - 1)), choice);
    }

    long error(int step, int sheet, int choice) {
        return onSheet(sheet, choice)[step] - onSheet(sheet, 0)[step];
    }

    private static boolean errs(long[] span) {
        return span[0] != 0 || span[1] != 0;
    }

    /** The spans of ERRORS up to the STEP that bars, if there is one: that has none. */
    List<long[]> shown(int choice) {
        List<long[]> shown = new ArrayList<>();
        for (int i = 0; i < steps.size(); i++) {
            int[] change = changeOf(i, choice);
            boolean at = KINDS[steps.get(i)[0]].equals("at");
            if (at && change[1] != 4 && errs(shown.get(steps.get(i)[2]))) {
                return shown;
            }
            long[] span = byChange(i, change, byKind(steps.get(i), shown), shown);
            if (span[0] < -LIMIT || span[1] > LIMIT) {
                return shown;
            }
            shown.add(span);
        }
        return shown;
    }

    private long[] byKind(int[] step, List<long[]> shown) {
        String kind = KINDS[step[0]];
        if (kind.equals("sum") || kind.equals("most") || kind.equals("at")) {
            return new long[] {0, 0};
        }
        long[] a = shown.get(step[2]);
        long[] b = shown.get(step[3]);
        switch (kind) {
            case "add": return together(a, b);
            case "less": return lessOther(a, b);
            case "times":
                return together(together(products(spans.get(step[2]), b), products(spans.get(step[3]), a)),
                        products(a, b));
            case "scale":
                if (!errs(a)) {
                    return new long[] {0, 0};
                }
                long[] over = hull(a[0] * step[6], a[1] * step[6]);
                return new long[] {Math.floorDiv(over[0], (long) step[7]) - 1,
                    -Math.floorDiv(-over[1], (long) step[7]) + 1};
            default:
                long[] span = either(a, b);
                if (errs(shown.get(step[4])) || errs(shown.get(step[5]))) {
                    span = either(span, together(lessOther(spans.get(step[2]), spans.get(step[3])), a));
                    span = either(span, together(lessOther(spans.get(step[3]), spans.get(step[2])), b));
                }
                return span;
        }
    }

    private long[] byChange(int i, int[] change, long[] span, List<long[]> shown) {
        int[] step = steps.get(i);
        int[] row = rows.get(step[1]);
        boolean sum = KINDS[step[0]].equals("sum");
        long m = row[0];
        long x = row[1];
        long y = row[2];
        long n = change[2];
        switch (change[1]) {
            case 0:
                long t = (m + n - 1) / n;
                return new long[] {(m - t) * (x - y) - 1, (m - t) * (y - x) + 1};
            case 1: return new long[] {span[0] - ((1L << n) - 1), span[1]};
            case 2:
                int one = n == 0 ? step[2] : step[3];
                int other = n == 0 ? step[3] : step[2];
                return either(shown.get(one),
                        together(lessOther(spans.get(one), spans.get(other)), shown.get(one)));
            case 3: return new long[] {span[0] - (sum ? m : 1) * (n - 1), span[1]};
            case 4: return new long[] {middle(i) - spans.get(i)[1], middle(i) - spans.get(i)[0]};
            case 5:
                if (m <= n) {
                    return span;
                }
                return sum ? new long[] {(n - m) * y, (n - m) * x} : new long[] {x - y, 0};
            case 6: return sum ? new long[] {m * (x - y), m * (y - x)} : new long[] {x - y, y - x};
            default: return span;
        }
    }

    int barred(int choice) {
        int shown = shown(choice).size();
        return shown == steps.size() ? -1 : shown;
    }

    long off(int end, int choice) {
        long[] span = shown(choice).get(ends.get(end)[0]);
        return Math.max(-span[0], span[1]);
    }

    long wrong(int end, int sheet, int choice) {
        return Math.abs(error(ends.get(end)[0], sheet, choice));
    }

    long measured(int end, int choice) {
        long most = 0;
        for (int sheet = 0; sheet < sheets.size(); sheet++) {
            most = kept.get(sheet) ? most : Math.max(most, wrong(end, sheet, choice));
        }
        return most;
    }

    int passed(int end, int choice) {
        int passed = 0;
        for (int sheet = 0; sheet < sheets.size(); sheet++) {
            passed += kept.get(sheet) && wrong(end, sheet, choice) > measured(end, choice) ? 1 : 0;
        }
        return passed;
    }

    long wrongTogether(int end, int choice) {
        long sum = 0;
        for (int sheet = 0; sheet < sheets.size(); sheet++) {
            sum += wrong(end, sheet, choice);
        }
        return sum;
    }

    int saved(int choice) {
        int saved = 0;
        for (int i = 0; i < changes.size(); i++) {
            saved += (choice >> i & 1) * changes.get(i)[3];
        }
        return saved;
    }

    int ticks(int choice) {
        int ticks = 0;
        for (int i = 0; i < steps.size(); i++) {
            int[] change = changeOf(i, choice);
            int has = rows.get(steps.get(i)[1])[0];
            boolean gathers = steps.get(i)[0] < 2;
            if (change[1] == 4) {
                continue;
            }
            if (!gathers) {
                ticks++;
            } else if (change[1] == 0) {
                for (int place = 0; place < has; place += change[2]) {
                    ticks++;
                }
            } else {
                ticks += change[1] == 5 ? Math.min(has, change[2]) : has;
            }
        }
        return ticks;
    }

    boolean let(int choice) {
        if (barred(choice) != -1) {
            return false;
        }
        for (int end = 0; end < ends.size(); end++) {
            int allowed = ends.get(end)[1];
            int over = 0;
            for (int sheet = 0; sheet < sheets.size(); sheet++) {
                over += wrong(end, sheet, choice) > allowed ? 1 : 0;
            }
            boolean kept;
            switch (END_KINDS[ends.get(end)[2]]) {
                case "never": kept = off(end, choice) <= allowed; break;
                case "mean": kept = wrongTogether(end, choice) <= (long) allowed * sheets.size(); break;
                default: kept = over * 100 <= sheets.size();
            }
            if (!kept) {
                return false;
            }
        }
        return true;
    }

    List<Integer> choices() {
        List<Integer> choices = new ArrayList<>();
        for (int choice = 0; choice < 1 << changes.size(); choice++) {
            if (canBe(choice) && barred(choice) == -1) {
                choices.add(choice);
            }
        }
        return choices;
    }

    int best() {
        List<Integer> let = choices();
        let.removeIf(choice -> !let(choice));
        let.sort((one, other) -> {
            int bySaved = Integer.compare(saved(other), saved(one));
            int byCount = Integer.compare(Integer.bitCount(one), Integer.bitCount(other));
            return bySaved != 0 ? bySaved : byCount != 0 ? byCount : Integer.compare(one, other);
        });
        return let.get(0);
    }

    List<long[]> front(int end) {
        TreeMap<Long, Integer> most = new TreeMap<>();
        for (int choice : choices()) {
            most.merge(off(end, choice), saved(choice), Math::max);
        }
        List<long[]> front = new ArrayList<>();
        for (long off : most.keySet()) {
            boolean beaten = most.headMap(off, false).values().stream().anyMatch(saved -> saved >= most.get(off));
            if (!beaten) {
                front.add(new long[] {off, most.get(off)});
            }
        }
        return front;
    }

    boolean turnsBack(int end, int sheet, int choice) {
        long[] values = onSheet(sheet, choice);
        for (int[] guard : guards) {
            if (guard[0] == end && Math.abs(values[ends.get(end)[0]] - values[guard[1]]) > guard[2]) {
                return true;
            }
        }
        return false;
    }

    int turned(int end, int choice) {
        int turned = 0;
        for (int sheet = 0; sheet < sheets.size(); sheet++) {
            turned += turnsBack(end, sheet, choice) ? 1 : 0;
        }
        return turned;
    }

    int through(int end, int choice) {
        int through = 0;
        for (int sheet = 0; sheet < sheets.size(); sheet++) {
            boolean over = wrong(end, sheet, choice) > ends.get(end)[1];
            through += over && !turnsBack(end, sheet, choice) ? 1 : 0;
        }
        return through;
    }

    /** {ERROR, bits}. */
    long[] worst(int end, int choice) {
        int places = rows.stream().mapToInt(row -> row[0]).sum();
        long[] worst = {0, 0};
        for (int bits = 0; bits < 1 << places; bits++) {
            int rest = bits;
            int[][] numbers = new int[rows.size()][];
            for (int i = 0; i < numbers.length; i++) {
                numbers[i] = new int[rows.get(i)[0]];
                for (int place = 0; place < numbers[i].length; place++) {
                    numbers[i][place] = rows.get(i)[rest % 2 == 0 ? 1 : 2];
                    rest /= 2;
                }
            }
            int step = ends.get(end)[0];
            long error = values(numbers, numbers, choice)[step] - values(numbers, numbers, 0)[step];
            if (Math.abs(error) > Math.abs(worst[0])) {
                worst = new long[] {error, bits};
            }
        }
        return worst;
    }

    /** What is saved, and behind it the CHOICES, SHEET by SHEET. */
    int[] plan(int end, int much) {
        List<Integer> choices = choices();
        int[][] behind = new int[much + 1][1];
        for (int sheet = sheets.size() - 1; sheet >= 0; sheet--) {
            int[][] here = new int[much + 1][];
            for (int choice : choices) {
                long wrong = wrong(end, sheet, choice);
                for (int rest = (int) Math.min(wrong, much + 1L); rest <= much; rest++) {
                    int[] with = with(choice, behind[rest - (int) wrong]);
                    if (here[rest] == null || isBetter(with, here[rest])) {
                        here[rest] = with;
                    }
                }
            }
            behind = here;
        }
        return behind[much];
    }

    private int[] with(int choice, int[] plan) {
        int[] with = new int[plan.length + 1];
        System.arraycopy(plan, 1, with, 2, plan.length - 1);
        with[0] = plan[0] + saved(choice);
        with[1] = choice;
        return with;
    }

    private static boolean isBetter(int[] plan, int[] other) {
        if (plan[0] != other[0]) {
            return plan[0] > other[0];
        }
        return Arrays.compare(plan, other) < 0;
    }
}
