import java.util.Random;

/** No call may throw or fail to end, for any arguments in any state; and the same calls give the same answers. */
public final class AnyCallTest {
    private static final int[] ODD = {Integer.MIN_VALUE, Integer.MAX_VALUE, -2, -1, 12, 13, 31, 32, 33, 39, 40, 41,
        63, 64, 400, 401, 999, 1000, 4095, 4096, 9999, 10000, 99999, 100000};
    private static final String[] PIECES = {"row ", "r ", "q ", "has ", "from ", "to ", "sum ", "s ", "of ", "most ",
        "add ", "less ", "times ", "scale ", "by ", "over ", "at ", "place ", "pick ", "if ", "under ", "end ", "off ",
        "never ", "mean ", "one ", ";", "-", "1 ", "5", "99 ", "999 ", "9999", "12345", "abcdefgh", "abcdefghi", "A",
        "\n", "x ", "y "};

    private final Random random;
    private final NearEnough x = new NearEnough();
    private long sum = 0;

    private AnyCallTest(int seed) {
        random = new Random(seed);
    }

    public static void main(String[] args) {
        for (int seed = 0; seed < 3000; seed++) {
            Check.due("the same calls, seed " + seed, run(seed), run(seed));
        }
        Check.finish();
    }

    private static long run(int seed) {
        AnyCallTest test = new AnyCallTest(seed);
        for (int call = 0; call < 300; call++) {
            test.sum = test.sum * 31 + test.call();
        }
        return test.sum;
    }

    private int some() {
        int kind = random.nextInt(12);
        return kind == 0 ? ODD[random.nextInt(ODD.length)] : kind == 1 ? random.nextInt() : random.nextInt(4);
    }

    private int choice() {
        return random.nextInt(8) == 0 ? some() : random.nextInt(1 << random.nextInt(13));
    }

    private int amount() {
        return random.nextInt(4) == 0 ? some() : random.nextInt(400);
    }

    private long tell() {
        String text;
        if (random.nextInt(3) == 0) {
            StringBuilder pieces = new StringBuilder();
            int many = random.nextInt(60);
            for (int i = 0; i < many; i++) {
                pieces.append(PIECES[random.nextInt(PIECES.length)]);
            }
            text = pieces.toString();
        } else {
            text = Model.random(random, 12).text();
        }
        byte[] bytes = Check.bytes(text);
        if (random.nextInt(4) == 0 && bytes.length > 0) {
            bytes[random.nextInt(bytes.length)] = (byte) random.nextInt(256);
        }
        x.end(0);
        Check.tape(x, bytes);
        if (random.nextInt(4) == 0) {
            x.end(random.nextInt(bytes.length + 1));
        }
        return x.program() * 31L + x.fault(0) * 7L + x.fault(1);
    }

    private long call() {
        switch (random.nextInt(44)) {
            case 0: return x.feed(random.nextInt(), some(), random.nextInt(), some(), some());
            case 1: return x.end(some());
            case 2: return random.nextInt(4) != 0 ? tell() : x.program();
            case 3: return x.fault(some());
            case 4: return x.span(some(), random.nextBoolean());
            case 5:
            case 6: return x.sheet(random.nextBoolean());
            case 7:
            case 8:
            case 9: return x.put(some(), some(), some(), random.nextInt(40) - 20) ? 1 : 0;
            case 10: return x.put(some(), some(), some(), some()) ? 1 : 0;
            case 11:
            case 12:
            case 13:
            case 14: return x.change(random.nextInt(12), random.nextInt(7), random.nextInt(7), random.nextInt(1000));
            case 15: return x.change(some(), some(), some(), some());
            default: return ask();
        }
    }

    private long ask() {
        switch (random.nextInt(26)) {
            case 0: return x.value(some(), some(), choice());
            case 1: return x.error(some(), choice(), random.nextBoolean());
            case 2: return x.off(some(), choice());
            case 3: return x.barred(choice());
            case 4: return x.measured(some(), choice());
            case 5: return x.passed(some(), choice());
            case 6: return x.mean(some(), choice(), some());
            case 7: return x.saved(choice());
            case 8: return x.ticks(choice());
            case 9: return x.let(choice());
            case 10: return x.best();
            case 11: return x.front(some());
            case 12: return x.pair(some(), some(), some());
            case 13: return x.guard(some(), some(), some());
            case 14: return x.through(some(), choice());
            case 15: return x.turned(some(), choice());
            case 16: return x.worst(some(), choice(), some());
            case 17: return x.led(some(), some(), choice(), some());
            case 18: return x.purse(some()) ? 1 : 0;
            case 19: return x.day(some(), some(), choice());
            case 20: return x.plan(some(), amount());
            case 21: return x.planned(some(), amount(), some());
            case 22: return x.about(some());
            case 23: return tell();
            default: return x.purse(random.nextInt(100000)) ? 1 : 0;
        }
    }
}
