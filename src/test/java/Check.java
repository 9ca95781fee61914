import java.nio.charset.StandardCharsets;

/** What the tests share: counting wrong answers, and bringing a text onto the TAPE. */
final class Check {
    static final long NO_ERROR = -1000000000000L;

    private static int answers = 0;
    private static int wrong = 0;

    private Check() {
    }

    static void due(String call, long got, long want) {
        answers++;
        if (got != want) {
            wrong++;
            System.out.println(call + " answered " + got + ", due is " + want);
        }
    }

    static void due(String call, boolean got, boolean want) {
        due(call, got ? 1 : 0, want ? 1 : 0);
    }

    static void finish() {
        System.out.println(answers + " answers, " + wrong + " not as due");
        if (wrong != 0 || answers == 0) {
            System.exit(1);
        }
    }

    static void tape(NearEnough x, byte[] text) {
        byte[] padded = java.util.Arrays.copyOf(text, (text.length + 19) / 20 * 20);
        for (int i = 0; i < padded.length; i += 20) {
            x.feed(four(padded, i), four(padded, i + 4), four(padded, i + 8), four(padded, i + 12),
                    four(padded, i + 16));
        }
        x.end(text.length);
    }

    private static int four(byte[] bytes, int i) {
        return (bytes[i] & 255) << 24 | (bytes[i + 1] & 255) << 16 | (bytes[i + 2] & 255) << 8 | bytes[i + 3] & 255;
    }

    static byte[] bytes(String text) {
        return text.getBytes(StandardCharsets.ISO_8859_1);
    }

    static String text(byte[] bytes) {
        return new String(bytes, StandardCharsets.ISO_8859_1);
    }

    /** A new object with a text on its TAPE. */
    static NearEnough taped(String text) {
        NearEnough x = new NearEnough();
        tape(x, bytes(text));
        return x;
    }

    /** A new object with a PROGRAM that has no FAULT. */
    static NearEnough told(String text) {
        NearEnough x = taped(text);
        if (x.program() == NearEnough.NONE) {
            due("fault of: " + text, x.fault(0), 0);
            due("its place", x.fault(1), NearEnough.NONE);
        }
        return x;
    }

    /** The text has a | where its FAULT is due. */
    static void fault(int number, String marked) {
        int place = marked.indexOf('|');
        String text = marked.substring(0, place) + marked.substring(place + 1);
        NearEnough x = taped(text);
        due("program of " + text, x.program(), NearEnough.NONE);
        due("fault of " + text, x.fault(0), number);
        due("its place in " + text, x.fault(1), place);
        due("bytes that stay of " + text, x.about(7), text.length());
    }

    /** A PROGRAM that has no FAULT and so many STEPS. */
    static NearEnough good(int steps, String text) {
        NearEnough x = taped(text);
        due("program of " + text, x.program(), steps);
        due("fault of " + text, x.fault(0), 0);
        due("no place of a fault in " + text, x.fault(1), NearEnough.NONE);
        due("bytes left of " + text, x.about(7), 0);
        return x;
    }

    static void spanOf(NearEnough x, int step, long low, long high) {
        due("least of STEP " + step, x.span(step, false), low);
        due("greatest of STEP " + step, x.span(step, true), high);
    }

    static void errorOf(NearEnough x, int step, int choice, long low, long high) {
        due("e of STEP " + step + " by " + choice, x.error(step, choice, false), low);
        due("f of STEP " + step + " by " + choice, x.error(step, choice, true), high);
    }

    /** Puts numbers into a ROW of a SHEET, from its first place on. */
    static void fill(NearEnough x, int sheet, int row, int... numbers) {
        for (int place = 0; place < numbers.length; place++) {
            due("put " + numbers[place], x.put(sheet, row, place, numbers[place]), true);
        }
    }
}
