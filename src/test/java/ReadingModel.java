import java.util.ArrayList;
import java.util.HashMap;
import java.util.List;
import java.util.Map;
import java.util.Set;

/** The document's grammar and FAULTS once more, as plainly as can be: a line is a list of what must stand there. */
final class ReadingModel {
    private static final Set<String> OWN_WORDS = Set.of("row", "has", "from", "to", "sum", "of", "most", "add", "less",
            "times", "scale", "by", "over", "at", "place", "pick", "if", "under", "end", "off", "never", "mean", "one");
    private static final Map<String, String> LINES = Map.of(
            "row", "NEW has N:1:6 from V:-999:999 to UP ;",
            "sum", "NEW of ROW SPAN ;",
            "most", "NEW of ROW SPAN ;",
            "add", "NEW STEP STEP SPAN ;",
            "less", "NEW STEP STEP SPAN ;",
            "times", "NEW STEP STEP SPAN ;",
            "scale", "NEW STEP by V:-99:99 over N:1:99 SPAN ;",
            "at", "NEW ROW place STEP SPAN ;",
            "pick", "NEW STEP STEP if STEP under STEP SPAN ;",
            "end", "FREE off N:0:9999 never|mean|one ;");

    private final byte[] text;
    private int next = 0;
    private String token = "";
    private int tokenPlace = 0;
    private final Map<String, long[]> rows = new HashMap<>();
    private final Map<String, long[]> steps = new HashMap<>();
    private final Set<String> ends = new java.util.HashSet<>();
    final List<long[]> spans = new ArrayList<>();
    int fault = 0;
    int place = NearEnough.NONE;

    /** What the line at hand has told so far. */
    private String first = "";
    private String name = "";
    private int namePlace = 0;
    private final List<Long> numbers = new ArrayList<>();
    private final List<long[]> parts = new ArrayList<>();

    ReadingModel(byte[] text) {
        this.text = text;
        read();
    }

    int rowCount() {
        return rows.size();
    }

    int endCount() {
        return ends.size();
    }

    private char at(int i) {
        return i < text.length ? (char) (text[i] & 255) : '$';
    }

    private static boolean isLetter(char sign) {
        return sign >= 'a' && sign <= 'z';
    }

    private static boolean isDigit(char sign) {
        return sign >= '0' && sign <= '9';
    }

    /** A word or an N, a sign, "" at the end of the text, "?" where no TOKEN is. */
    private void advance() {
        while (next < text.length && (text[next] == 32 || text[next] == 10)) {
            next++;
        }
        tokenPlace = next;
        StringBuilder run = new StringBuilder();
        boolean word = isLetter(at(next));
        while (word ? isLetter(at(next)) : isDigit(at(next))) {
            run.append(at(next));
            next++;
        }
        token = run.toString();
        boolean tooLong = token.length() > (word ? 8 : 4);
        if (tooLong || !word && !token.isEmpty() && isLetter(at(next))) {
            token = "?";
        } else if (token.isEmpty() && next < text.length) {
            token = at(next) == ';' || at(next) == '-' ? String.valueOf(at(next)) : "?";
            next++;
        }
    }

    private void refuse(int number, int where) {
        if (fault == 0) {
            fault = number;
            place = where;
        }
    }

    private void read() {
        advance();
        while (fault == 0 && !token.isEmpty()) {
            readLine();
        }
    }

    private void readLine() {
        first = token;
        boolean full = first.equals("row") ? rows.size() == 2 : first.equals("end") ? ends.size() == 4 : spans.size() == 12;
        if (token.equals("?")) {
            refuse(1, tokenPlace);
        } else if (!LINES.containsKey(first) || full) {
            refuse(2, tokenPlace);
        } else {
            numbers.clear();
            parts.clear();
            advance();
            for (String must : LINES.get(first).split(" ")) {
                if (fault == 0) {
                    readPart(must);
                }
            }
            if (fault == 0) {
                tell();
            }
        }
    }

    private void readPart(String must) {
        if (must.equals("SPAN")) {
            long[] span = span();
            if (span[0] < -1000000000 || span[1] > 1000000000) {
                refuse(7, namePlace);
            }
        } else if (token.equals("?")) {
            refuse(1, tokenPlace);
        } else if (must.startsWith("N:") || must.startsWith("V:") || must.equals("UP")) {
            readNumber(must);
        } else if (Set.of("NEW", "ROW", "STEP", "FREE").contains(must)) {
            readName(must);
        } else if (Set.of(must.split("\\|")).contains(token)) {
            advance();
        } else {
            refuse(2, tokenPlace);
        }
    }

    private void readNumber(String must) {
        int where = tokenPlace;
        boolean below = !must.startsWith("N") && token.equals("-");
        if (below) {
            advance();
        }
        if (token.equals("?")) {
            refuse(1, tokenPlace);
        } else if (token.isEmpty() || !isDigit(token.charAt(0))) {
            refuse(2, tokenPlace);
        } else {
            long number = Long.parseLong(token) * (below ? -1 : 1);
            long least = must.equals("UP") ? numbers.get(1) : Long.parseLong(must.split(":")[1]);
            long greatest = must.equals("UP") ? 999 : Long.parseLong(must.split(":")[2]);
            if (number < least || number > greatest) {
                refuse(4, where);
            } else {
                numbers.add(number);
                advance();
            }
        }
    }

    private void readName(String must) {
        boolean row = rows.containsKey(token);
        boolean step = steps.containsKey(token);
        if (token.isEmpty() || !isLetter(token.charAt(0)) || OWN_WORDS.contains(token)) {
            refuse(2, tokenPlace);
        } else if (must.equals("NEW") && (row || step) || must.equals("FREE") && ends.contains(token)) {
            refuse(3, tokenPlace);
        } else if (must.equals("ROW") && !row || (must.equals("STEP") || must.equals("FREE")) && !step) {
            refuse(5, tokenPlace);
        } else if (must.equals("NEW") || must.equals("FREE")) {
            name = token;
            namePlace = tokenPlace;
            advance();
        } else {
            parts.add(row ? rows.get(token) : steps.get(token));
            advance();
        }
    }

    private static long[] hull(long... all) {
        long least = all[0];
        long greatest = all[0];
        for (long one : all) {
            least = Math.min(least, one);
            greatest = Math.max(greatest, one);
        }
        return new long[] {least, greatest};
    }

    private long[] span() {
        long[] p = parts.get(0);
        long[] q = parts.get(parts.size() > 1 ? 1 : 0);
        switch (first) {
            case "sum": return new long[] {p[2] * p[0], p[2] * p[1]};
            case "most":
            case "at": return new long[] {p[0], p[1]};
            case "add": return hull(p[0] + q[0], p[0] + q[1], p[1] + q[0], p[1] + q[1]);
            case "less": return hull(p[0] - q[0], p[0] - q[1], p[1] - q[0], p[1] - q[1]);
            case "times": return hull(p[0] * q[0], p[0] * q[1], p[1] * q[0], p[1] * q[1]);
            case "scale": return hull(p[0] * numbers.get(0) / numbers.get(1), p[1] * numbers.get(0) / numbers.get(1));
            default: return hull(p[0], p[1], q[0], q[1]);
        }
    }

    private void tell() {
        if (first.equals("row")) {
            rows.put(name, new long[] {numbers.get(1), numbers.get(2), numbers.get(0)});
        } else if (first.equals("end")) {
            ends.add(name);
        } else {
            steps.put(name, span());
            spans.add(span());
        }
    }
}
