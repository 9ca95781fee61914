import java.util.ArrayList;
import java.util.Arrays;
import java.util.List;
import java.util.Random;
import java.util.regex.Matcher;
import java.util.regex.Pattern;

/** Holds the reading of texts against the ReadingModel: good texts by chance, and what becomes of them by small wrongs. */
public final class ReadingModelTest {
    private static final String[] WORDS = {"row", "has", "from", "to", "sum", "of", "most", "add", "less", "times", "scale",
        "by", "over", "at", "place", "pick", "if", "under", "end", "off", "never", "mean", "one", "abcdefghi", "-", ";", "5x",
        "12345", "?", "A"};
    private static final String[] NAMES = {"r", "q", "xa", "xb", "xc", "xd", "xe", "xl", "z", "y", "abcdefgh"};
    private static final String[] NUMBERS = {"0", "1", "6", "7", "98", "99", "100", "998", "999", "1000", "9999", "0001"};
    private static final String[] LINES = {"row z has 1 from 0 to 0;", "row r has 6 from -999 to 999;", "sum y of r;",
        "most xb of r;", "times xb xa xa;", "times y xa xa;times z y y;", "scale y xa by -99 over 1;times z y y;",
        "scale y xa by 99 over 1;scale z y by 99 over 1;times w z z;", "end xa off 1 one;", "end xb off 0 never;",
        "at y r place xa;", "pick y xa xa if xa under xa;"};

    private final Random random;
    private final int[] seen = new int[8];

    private ReadingModelTest(int seed) {
        random = new Random(seed);
    }

    public static void main(String[] args) {
        ReadingModelTest test = new ReadingModelTest(77);
        for (int turn = 0; turn < 15000; turn++) {
            byte[] text = Check.bytes(Model.random(test.random, 12).text());
            test.compare(text);
            int wrongs = 1 + test.random.nextInt(3);
            for (int i = 0; i < wrongs; i++) {
                text = test.random.nextInt(4) == 0 ? test.oddByte(text) : Check.bytes(test.oddPiece(text));
            }
            test.compare(Arrays.copyOf(text, Math.min(text.length, 1000)));
        }
        for (int fault : new int[] {0, 1, 2, 3, 4, 5, 7}) {
            Check.due("FAULT " + fault + " was often met", test.seen[fault] > 100, true);
        }
        System.out.println("by FAULT: " + Arrays.toString(test.seen));
        Check.finish();
    }

    /** Cuts the text off, or brings in, leaves out or puts another byte. */
    private byte[] oddByte(byte[] text) {
        int place = random.nextInt(text.length + 1);
        int kind = random.nextInt(4);
        if (kind == 0) {
            return Arrays.copyOf(text, place);
        }
        char odd = (char) (random.nextBoolean() ? " \n;-09az".charAt(random.nextInt(8)) : random.nextInt(256));
        String all = Check.text(text);
        String behind = all.substring(kind == 1 ? place : Math.min(all.length(), place + 1));
        return Check.bytes(all.substring(0, place) + (kind == 3 ? "" : odd) + behind);
    }

    private String any(String[] all) {
        return all[random.nextInt(all.length)];
    }

    /** Puts another NAME, number, word or line for one TOKEN, brings one in, or leaves it out. */
    private String oddPiece(byte[] text) {
        List<String> pieces = new ArrayList<>();
        Matcher matcher = Pattern.compile("[a-z]+|[0-9]+|;|[^a-z0-9;]").matcher(Check.text(text));
        while (matcher.find()) {
            pieces.add(matcher.group());
        }
        if (pieces.isEmpty()) {
            return any(LINES);
        }
        int place = random.nextInt(pieces.size());
        String piece = pieces.get(place);
        if (piece.equals(";")) {
            pieces.add(place + 1, any(LINES));
        } else if (random.nextInt(6) == 0) {
            pieces.set(place, random.nextBoolean() ? "" : " " + any(WORDS) + " ");
        } else if (Character.isDigit(piece.charAt(0))) {
            pieces.set(place, any(NUMBERS));
        } else if (Arrays.asList(NAMES).contains(piece)) {
            pieces.set(place, any(NAMES));
        } else {
            pieces.add(place, random.nextBoolean() ? " " : "\n");
        }
        return String.join("", pieces);
    }

    private void compare(byte[] bytes) {
        ReadingModel model = new ReadingModel(bytes);
        NearEnough x = new NearEnough();
        Check.tape(x, bytes);
        String text = " of " + Check.text(bytes);
        boolean good = model.fault == 0;
        seen[model.fault]++;
        Check.due("program" + text, x.program(), good ? model.spans.size() : NearEnough.NONE);
        Check.due("fault" + text, x.fault(0), model.fault);
        Check.due("its place" + text, x.fault(1), model.place);
        Check.due("ROWS" + text, x.about(0), good ? model.rowCount() : 0);
        Check.due("STEPS" + text, x.about(1), good ? model.spans.size() : 0);
        Check.due("ENDS" + text, x.about(2), good ? model.endCount() : 0);
        Check.due("TAPE" + text, x.about(7), good ? 0 : bytes.length);
        for (int step = 0; good && step < model.spans.size(); step++) {
            Check.spanOf(x, step, model.spans.get(step)[0], model.spans.get(step)[1]);
        }
    }
}
