import java.util.ArrayList;
import java.util.List;

/** A call that is refused does nothing, and a call that only asks does nothing: all answers stay as they were. */
public final class RefusalTest {
    private static final int NONE = NearEnough.NONE;
    private static final int LOWEST = Integer.MIN_VALUE;
    private static final int HIGHEST = Integer.MAX_VALUE;
    // STEPS: 0 s, 1 m, 2 i, 3 a, 4 h, 5 p.
    private static final String TEXT = "row r has 3 from -4 to 9;row q has 2 from 0 to 3;sum s of r;most m of r;sum i of q;"
            + "at a r place i;scale h s by -1 over 2;pick p s h if a under m;end p off 3 mean;end a off 0 never;";

    /** A call and what it answers (a boolean counts 1 or 0). */
    private interface Call {
        long on(NearEnough x);
    }

    private RefusalTest() {
    }

    public static void main(String[] args) {
        refusedByAUsualOne();
        refusedByAFullOne();
        refusedByANewOne();
        faultsLeaveAll();
        askingLeavesAll();
        Check.finish();
    }

    private static NearEnough usual() {
        NearEnough x = Check.told(TEXT);
        for (int sheet = 0; sheet < 3; sheet++) {
            x.sheet(sheet == 1);
            for (int place = 0; place < 3; place++) {
                x.put(sheet, 0, place, (sheet * 5 + place * 7) % 14 - 4);
            }
            x.put(sheet, 1, 0, sheet);
        }
        x.change(0, Kind.SHORT, 2, 5);
        x.change(2, Kind.BITS, 1, 3);
        x.change(3, Kind.LEFT, 0, 2);
        x.change(5, Kind.USUAL, 1, 1);
        x.guard(0, 1, 4);
        x.purse(30);
        x.day(0, 0, 1);
        Check.tape(x, Check.bytes("row z has 1 from 0 to 7;sum y of z;"));
        return x;
    }

    private static NearEnough full() {
        StringBuilder text = new StringBuilder("row r has 6 from -4 to 9;row q has 6 from 0 to 3;");
        for (int i = 0; i < 12; i++) {
            text.append("sum s").append((char) ('a' + i)).append(i % 2 == 0 ? " of r;" : " of q;");
        }
        NearEnough x = Check.told(text + "end sa off 3 mean;end sb off 0 never;end sc off 9 one;end sd off 1 one;");
        for (int sheet = 0; sheet < 40; sheet++) {
            x.sheet(sheet % 4 == 1);
            x.put(sheet, 0, sheet % 6, sheet % 14 - 4);
            x.put(sheet, 1, sheet % 6, sheet % 4);
        }
        for (int change = 0; change < 12; change++) {
            x.change(change * 5 % 12, Kind.SHORT, 1 + change % 5, 10 * change);
        }
        for (int guard = 0; guard < 4; guard++) {
            x.guard(guard, 4 + guard, guard);
        }
        x.purse(99999);
        byte[] tape = Check.bytes("row z has 1 from 0 to 7;sum y of z;" + " ".repeat(1000));
        Check.tape(x, java.util.Arrays.copyOf(tape, 1000));
        return x;
    }

    /** All that can be asked of a few SHEETS and CHOICES; the TAPE is told by program() at last. */
    private static List<Long> all(NearEnough x) {
        List<Long> answers = new ArrayList<>();
        for (int what = 0; what < 8; what++) {
            answers.add((long) x.about(what));
        }
        answers.add((long) x.fault(0));
        answers.add((long) x.fault(1));
        int[] choices = {0, 1, 2, 6, 8, 15, 16, 2048, 4095};
        for (int choice : choices) {
            byChoice(x, choice, answers);
        }
        for (int step = 0; step < 6; step++) {
            answers.add((long) x.span(step, false));
            answers.add((long) x.span(step, true));
            answers.add(x.value(step, 0, 0));
            answers.add(x.value(step, 2, 1));
        }
        answers.add(x.value(0, 39, 0));
        answers.add(x.value(1, 39, 0));
        answers.add((long) x.best());
        for (int end = 0; end < 2; end++) {
            byEnd(x, end, answers);
        }
        answers.add((long) x.program());
        answers.add((long) x.about(0));
        answers.add((long) x.span(0, true));
        return answers;
    }

    private static void byChoice(NearEnough x, int choice, List<Long> answers) {
        answers.add((long) x.barred(choice));
        answers.add((long) x.saved(choice));
        answers.add((long) x.ticks(choice));
        answers.add((long) x.let(choice));
        answers.add(x.error(5, choice, false));
        answers.add(x.error(5, choice, true));
        answers.add(x.off(0, choice));
        answers.add(x.measured(0, choice));
        answers.add((long) x.passed(0, choice));
        answers.add(x.mean(0, choice, 0));
        answers.add(x.mean(0, choice, 1));
        answers.add((long) x.through(0, choice));
        answers.add((long) x.turned(0, choice));
        answers.add(x.worst(0, choice, 0));
        answers.add(x.worst(0, choice, 1));
        answers.add(x.led(0, 1, choice, 0));
    }

    private static void byEnd(NearEnough x, int end, List<Long> answers) {
        answers.add((long) x.front(end));
        for (int i = 0; i < 4; i++) {
            answers.add(x.pair(end, i, 0));
            answers.add(x.pair(end, i, 1));
        }
        int[] amounts = {0, 7, 400};
        for (int much : amounts) {
            answers.add((long) x.plan(end, much));
            answers.add((long) x.planned(end, much, 0));
            answers.add((long) x.planned(end, much, 2));
            answers.add((long) x.planned(end, much, 39));
        }
    }

    private static void same(String what, List<Long> got, List<Long> due) {
        Check.due(what + ": how many answers", got.size(), due.size());
        for (int i = 0; i < due.size(); i++) {
            Check.due(what + ": answer " + i, got.get(i), due.get(i));
        }
    }

    /** What was asked ahead of the refused call must not show, either: tables that are kept may not go stale. */
    private static void refused(String name, Call call, long due, NearEnough x, NearEnough untouched) {
        x.front(1);
        x.plan(1, 9);
        Check.due(name, call.on(x), due);
        same("behind " + name, all(x), all(untouched));
    }

    private static long count(boolean answer) {
        return answer ? 1 : 0;
    }

    private static void refusedByAUsualOne() {
        int[] none = {-1, LOWEST, HIGHEST};
        for (int n : none) {
            refusedWith(n);
        }
        refused("end", x -> x.end(36), NONE, usual(), usual());
        refused("put, SHEET 3", x -> count(x.put(3, 0, 0, 0)), 0, usual(), usual());
        refused("put, ROW 2", x -> count(x.put(0, 2, 0, 0)), 0, usual(), usual());
        refused("put, place 3", x -> count(x.put(0, 0, 3, 0)), 0, usual(), usual());
        refused("put, -5", x -> count(x.put(0, 0, 0, -5)), 0, usual(), usual());
        refused("put, 10", x -> count(x.put(0, 0, 0, 10)), 0, usual(), usual());
        refused("change, STEP 6", x -> x.change(6, Kind.BITS, 1, 1), NONE, usual(), usual());
        refused("change, kind 7", x -> x.change(0, 7, 0, 1), NONE, usual(), usual());
        refused("change, SKIP of most", x -> x.change(1, Kind.SKIP, 2, 1), NONE, usual(), usual());
        refused("change, BITS 11", x -> x.change(0, Kind.BITS, 11, 1), NONE, usual(), usual());
        refused("change, saves 1000", x -> x.change(0, Kind.BITS, 1, 1000), NONE, usual(), usual());
        refused("guard, END 2", x -> x.guard(2, 0, 0), NONE, usual(), usual());
        refused("guard, STEP 6", x -> x.guard(0, 6, 0), NONE, usual(), usual());
        refused("guard, 10000", x -> x.guard(0, 0, 10000), NONE, usual(), usual());
        refused("purse", x -> count(x.purse(100000)), 0, usual(), usual());
        refused("day, END 2", x -> x.day(2, 0, 0), NONE, usual(), usual());
        refused("day, SHEET 3", x -> x.day(0, 3, 0), NONE, usual(), usual());
        refused("day, CHOICE 16", x -> x.day(0, 0, 16), NONE, usual(), usual());
        refused("day, BARRED", x -> x.day(0, 0, 2), NONE, usual(), usual());
    }

    /** Each place of each call that changes something, with a number that can't be there. */
    private static void refusedWith(int n) {
        refused("end " + n, x -> x.end(n), NONE, usual(), usual());
        refused("put, SHEET " + n, x -> count(x.put(n, 0, 0, 0)), 0, usual(), usual());
        refused("put, ROW " + n, x -> count(x.put(0, n, 0, 0)), 0, usual(), usual());
        refused("put, place " + n, x -> count(x.put(0, 0, n, 0)), 0, usual(), usual());
        refused("put, number " + n, x -> count(x.put(0, 1, 0, n)), 0, usual(), usual());
        refused("change, STEP " + n, x -> x.change(n, Kind.BITS, 1, 1), NONE, usual(), usual());
        refused("change, kind " + n, x -> x.change(0, n, 1, 1), NONE, usual(), usual());
        refused("change, n " + n, x -> x.change(0, Kind.BITS, n, 1), NONE, usual(), usual());
        refused("change, saves " + n, x -> x.change(0, Kind.BITS, 1, n), NONE, usual(), usual());
        refused("guard, END " + n, x -> x.guard(n, 0, 0), NONE, usual(), usual());
        refused("guard, STEP " + n, x -> x.guard(0, n, 0), NONE, usual(), usual());
        refused("guard, within " + n, x -> x.guard(0, 0, n), NONE, usual(), usual());
        refused("purse " + n, x -> count(x.purse(n)), 0, usual(), usual());
        refused("day, END " + n, x -> x.day(n, 0, 0), NONE, usual(), usual());
        refused("day, SHEET " + n, x -> x.day(0, n, 0), NONE, usual(), usual());
        refused("day, CHOICE " + n, x -> x.day(0, 0, n), NONE, usual(), usual());
    }

    private static void refusedByAFullOne() {
        refused("feed of a full TAPE", x -> x.feed(-1, -1, -1, -1, -1), NONE, full(), full());
        refused("a 41st SHEET", x -> x.sheet(true), NONE, full(), full());
        refused("a 41st SHEET", x -> x.sheet(false), NONE, full(), full());
        refused("a number of it", x -> count(x.put(40, 0, 0, 9)), 0, full(), full());
        refused("a 13th CHANGE", x -> x.change(0, Kind.BITS, 1, 1), NONE, full(), full());
        refused("a 5th GUARD", x -> x.guard(0, 0, 0), NONE, full(), full());
        refused("a day beyond", x -> x.day(0, 0, 4096), NONE, full(), full());
    }

    private static void refusedByANewOne() {
        Call[] calls = {x -> x.end(1), x -> count(x.put(0, 0, 0, 0)), x -> x.change(0, Kind.LEFT, 0, 0),
            x -> x.guard(0, 0, 0), x -> x.day(0, 0, 0), x -> count(x.purse(-1))};
        for (int i = 0; i < calls.length; i++) {
            long due = i == 1 || i == 5 ? 0 : NONE;
            refused("call " + i + " of a new one", calls[i], due, new NearEnough(), new NearEnough());
        }
    }

    /** A DAY that turns back spends nothing; a program() with a FAULT leaves all but what fault() tells. */
    private static void faultsLeaveAll() {
        refused("a DAY that turns back", x -> x.purse(2) ? x.day(0, 0, 8) : 0, -2, usual(), spent());
        String[] texts = {"row", "?", "row z has 7", "row z has 1 from 0 to 1;sum y of x;", "row z has 1 from 0 to 0;row z",
            "row r has 1 from 0 to 100;sum a of r;times b a a;times c b b;times d c c;"};
        for (String text : texts) {
            NearEnough x = usual();
            x.front(0);
            x.plan(0, 9);
            x.end(0);
            Check.tape(x, Check.bytes(text));
            Check.due("a FAULT of " + text, x.program(), NONE);
            int fault = x.fault(0);
            int place = x.fault(1);
            Check.due("it is told", fault != 0 && place >= 0, true);
            Check.due("the TAPE stays", x.about(7), text.length());
            Check.due("the same again", x.program(), NONE);
            Check.due("its number", x.fault(0), fault);
            Check.due("its place", x.fault(1), place);
            NearEnough y = usual();
            y.end(0);
            Check.tape(y, Check.bytes(text));
            List<Long> got = all(x);
            List<Long> due = all(y);
            // What fault() told ahead of it is the one thing that differs.
            got.set(8, due.get(8));
            got.set(9, due.get(9));
            same("behind the FAULT of " + text, got, due);
        }
    }

    private static NearEnough spent() {
        NearEnough x = usual();
        x.purse(2);
        return x;
    }

    private static void askingLeavesAll() {
        Call[] calls = {x -> x.fault(0), x -> x.span(1, true), x -> x.value(3, 2, 1), x -> x.error(5, 8, true),
            x -> x.off(0, 9), x -> x.barred(2), x -> x.measured(0, 1), x -> x.passed(0, 1), x -> x.mean(0, 1, 0),
            x -> x.saved(15), x -> x.ticks(1), x -> x.let(1), x -> x.best(), x -> x.front(0), x -> x.pair(1, 0, 0),
            x -> x.through(0, 1), x -> x.turned(0, 1), x -> x.worst(1, 4, 0), x -> x.led(0, 2, 9, 3), x -> x.plan(0, 50),
            x -> x.planned(1, 50, 1), x -> x.about(6), x -> x.barred(3), x -> x.saved(-1)};
        List<Long> due = all(usual());
        for (int i = 0; i < calls.length; i++) {
            NearEnough x = usual();
            long answer = calls[i].on(x);
            Check.due("call " + i + " once more", calls[i].on(x), answer);
            Check.due("call " + i + " behind all others", behindAll(calls, i), answer);
            same("behind call " + i, all(x), due);
        }
        List<Long> dueOfFull = all(full());
        for (int i = 0; i < calls.length; i++) {
            NearEnough x = full();
            calls[i].on(x);
            same("behind call " + i + " of a full one", all(x), dueOfFull);
        }
    }

    private static long behindAll(Call[] calls, int i) {
        NearEnough x = usual();
        for (Call call : calls) {
            call.on(x);
        }
        return calls[i].on(x);
    }
}
