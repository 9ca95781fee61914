import java.util.Arrays;

/** Each sentence on the TAPE, the PROGRAM, its FAULTS and SPANS that names a bound: promises 1 to 6 and their terms. */
public final class TextEdgeTest {
    private static final int NONE = NearEnough.NONE;
    private static final int BLANKS = 0x20202020;
    private static final String ROW = "row r has 3 from 0 to 5;";
    private static final String SUM = ROW + "sum s of r;";
    private static final String[] OWN_WORDS = {"row", "has", "from", "to", "sum", "of", "most", "add", "less", "times",
        "scale", "by", "over", "at", "place", "pick", "if", "under", "end", "off", "never", "mean", "one"};
    // STEPS: 0 a of 0 .. 100, 1 b, 2 c of 0 .. 100000000, 3 o of 0 .. 1, 4 d of 0 .. 1000000000, 5 e of its like below.
    private static final String FAR = "row r has 1 from 0 to 100;sum a of r;times b a a;times c b b;"
            + "scale o a by 1 over 99;scale d c by 10 over 1;scale e c by -10 over 1;";

    private TextEdgeTest() {
    }

    public static void main(String[] args) {
        aNewObjectHasNone();
        aTextOfAtMostThousandBytes();
        fedBytesComeHighestFirst();
        noMoreThanThousandAreFed();
        theTapeHasItsFirstBytes();
        theBytesBehindAreGone();
        theTapeIsEmptyThen();
        theOldSheetsAreGone();
        aFaultLeavesAll();
        theLatestFault();
        wordsOfLettersEightAtMost();
        numbersOfOneToFourDigits();
        onlyTwoSignsAndTwoBlanks();
        noLetterBehindANumber();
        ownWordsAreNoNames();
        namesThatDiffer();
        tokensThatCanNotStandThere();
        twoRows();
        twelveSteps();
        fourEnds();
        numbersOfARow();
        numbersOfAScale();
        numbersOfAnEnd();
        theEndOfTheText();
        namesToldAlready();
        namesOfAnotherKind();
        theFirstFaultByItsPlace();
        spansUpToTheFarthest();
        theFarthestComesLast();
        spansOfProducts();
        spansOfScales();
        spansOfPicks();
        noSpanOfNoStep();
        Check.finish();
    }

    /** "An empty PROGRAM, no SHEETS, no CHANGES." */
    private static void aNewObjectHasNone() {
        NearEnough x = new NearEnough();
        for (int what = 0; what < 8; what++) {
            Check.due("about " + what + " at first", x.about(what), 0);
        }
        Check.due("span", x.span(0, true), 0);
        Check.due("value", x.value(0, 0, 0), NONE);
        Check.due("error", x.error(0, 0, true), Check.NO_ERROR);
        Check.due("off", x.off(0, 0), NONE);
        Check.due("barred by none", x.barred(0), NONE);
        Check.due("barred by the first", x.barred(1), -2);
        Check.due("measured", x.measured(0, 0), NONE);
        Check.due("passed", x.passed(0, 0), NONE);
        Check.due("mean", x.mean(0, 0, 0), NONE);
        Check.due("saved by none", x.saved(0), 0);
        Check.due("saved by the first", x.saved(1), NONE);
        Check.due("ticks of none", x.ticks(0), 0);
        Check.due("ticks of the first", x.ticks(1), NONE);
        Check.due("let of none", x.let(0), 1);
        Check.due("let of the first", x.let(1), NONE);
        Check.due("best", x.best(), 0);
        Check.due("front", x.front(0), NONE);
        Check.due("pair", x.pair(0, 0, 0), NONE);
        Check.due("guard", x.guard(0, 0, 0), NONE);
        Check.due("through", x.through(0, 0), NONE);
        Check.due("turned", x.turned(0, 0), NONE);
        Check.due("worst", x.worst(0, 0, 0), Check.NO_ERROR);
        Check.due("led", x.led(0, 0, 0, 0), Check.NO_ERROR);
        Check.due("day", x.day(0, 0, 0), NONE);
        Check.due("plan", x.plan(0, 0), NONE);
        Check.due("planned", x.planned(0, 0, 0), NONE);
        Check.due("end at 0", x.end(0), 0);
        Check.due("end at 1", x.end(1), NONE);
        Check.due("the empty PROGRAM", x.program(), 0);
    }

    private static String blanks(int many) {
        return " ".repeat(many);
    }

    /** "A PROGRAM is a text of at most 1,000 bytes (empty at first)." */
    private static void aTextOfAtMostThousandBytes() {
        Check.good(0, "");
        Check.good(0, blanks(1000));
        String line = "row r has 3 from 0 to 5";
        Check.good(0, line + blanks(999 - line.length()) + ";");
        Check.fault(2, line + blanks(1000 - line.length()) + "|");
        Check.fault(2, blanks(999) + "|x");
        Check.fault(1, blanks(999) + "|?");
        StringBuilder lines = new StringBuilder("row r has 1 from 0 to 1;");
        String steps = "sum sa of r;most sb of r;add sc sa sb;less sd sa sb;times se sa sb;scale sf sa by 1 over 2;"
                + "at sg r place sa;pick sh sa sb if sa under sb;end sh off 1 mean;";
        lines.append(steps);
        NearEnough x = Check.good(8, blanks(1000 - lines.length()) + lines);
        Check.due("its last line counts", x.about(2), 1);
    }

    /** "Twenty bytes come behind those on the TAPE, of each number the highest first: how many there are." */
    private static void fedBytesComeHighestFirst() {
        for (int start = 0; start <= 3; start++) {
            for (int place = 0; place < 20; place++) {
                NearEnough x = new NearEnough();
                x.feed(BLANKS, BLANKS, BLANKS, BLANKS, BLANKS);
                Check.due("end", x.end(start), start);
                int[] five = {BLANKS, BLANKS, BLANKS, BLANKS, BLANKS};
                int shift = 24 - place % 4 * 8;
                five[place / 4] += ('x' - ' ') << shift;
                Check.due("feed", x.feed(five[0], five[1], five[2], five[3], five[4]), start + 20);
                Check.due("how many there are", x.about(7), start + 20);
                x.program();
                Check.due("the word x can't stand there", x.fault(0), 2);
                Check.due("its place", x.fault(1), start + place);
            }
        }
        NearEnough high = new NearEnough();
        high.feed(0x202020E1, -1, -1, -1, -1);
        high.program();
        Check.due("a byte beyond 127 is no TOKEN", high.fault(0), 1);
        Check.due("its place", high.fault(1), 3);
    }

    /** "NONE, and nothing comes, if there would be more than 1,000." */
    private static void noMoreThanThousandAreFed() {
        NearEnough x = new NearEnough();
        for (int many = 20; many <= 1000; many += 20) {
            Check.due("feed", x.feed(BLANKS, BLANKS, BLANKS, BLANKS, BLANKS), many);
        }
        Check.due("feed of a full TAPE", x.feed(-1, -1, -1, -1, -1), NONE);
        Check.due("nothing came", x.about(7), 1000);
        x.end(981);
        Check.due("1,001 are too many", x.feed(-1, -1, -1, -1, -1), NONE);
        Check.due("nothing came", x.about(7), 981);
        Check.due("none of them is there", x.end(982), NONE);
        x.end(980);
        Check.due("1,000 are not", x.feed(BLANKS, BLANKS, BLANKS, BLANKS, BLANKS), 1000);
        Check.due("no byte but blanks has come", x.program(), 0);
        Check.due("the TAPE is empty then", x.about(7), 0);
        Check.due("and can be fed anew", x.feed(BLANKS, BLANKS, BLANKS, BLANKS, BLANKS), 20);
    }

    /** "The TAPE has its first n bytes: n; NONE, doing nothing, if it has not so many, or n is below 0." */
    private static void theTapeHasItsFirstBytes() {
        NearEnough x = Check.taped(SUM + "?");
        int length = SUM.length() + 1;
        int[] wrong = {-1, length + 1, Integer.MIN_VALUE, Integer.MAX_VALUE, 1000, -1000};
        for (int n : wrong) {
            Check.due("end at " + n, x.end(n), NONE);
            Check.due("nothing is done", x.about(7), length);
        }
        Check.due("end where it ends", x.end(length), length);
        Check.due("the last byte is there", x.program(), NONE);
        Check.due("as no TOKEN", x.fault(1), length - 1);
        Check.due("end one ahead", x.end(length - 1), length - 1);
        Check.due("the byte behind is gone", x.end(length), NONE);
        Check.due("the rest is a PROGRAM", x.program(), 1);
        Check.due("an empty TAPE", x.end(1), NONE);
        Check.due("has 0 bytes", x.end(0), 0);
    }

    /** A TAPE that was cut is like one that never had more: each beginning of a text, told in both ways. */
    private static void theBytesBehindAreGone() {
        String text = "row rr has 12 from -10 to 20;sum ss of rr;scale tt ss by -99 over 99;end tt off 100 never;";
        for (int n = 0; n <= text.length(); n++) {
            NearEnough cut = Check.taped(text);
            cut.end(n);
            NearEnough like = Check.taped(text.substring(0, n));
            Check.due("program of the first " + n, cut.program(), like.program());
            Check.due("its fault", cut.fault(0), like.fault(0));
            Check.due("its place", cut.fault(1), like.fault(1));
        }
        NearEnough digits = Check.taped("row r has 12");
        digits.end(11);
        digits.program();
        latest(digits, 2, 11);
        NearEnough letter = Check.taped("row r has 3a");
        letter.end(11);
        letter.program();
        latest(letter, 2, 11);
        NearEnough word = Check.taped("sums");
        word.end(3);
        word.program();
        latest(word, 2, 3);
        NearEnough semicolon = Check.taped(SUM);
        semicolon.end(SUM.length() - 1);
        semicolon.program();
        latest(semicolon, 2, SUM.length() - 1);
    }

    /** "The TAPE (empty then) is the PROGRAM (SHEETS, CHANGES and GUARDS are none then; THE PURSE is 0, nothing spent)." */
    private static void theTapeIsEmptyThen() {
        NearEnough x = stocked();
        Check.due("the empty text", x.program(), NONE);
        x.end(0);
        Check.due("the empty text", x.program(), 0);
        for (int what = 0; what < 8; what++) {
            Check.due("about " + what + " of the empty PROGRAM", x.about(what), 0);
        }
        Check.due("no CHOICE", x.saved(1), NONE);
        Check.due("best", x.best(), 0);
        Check.due("no END", x.front(0), NONE);
        Check.due("no STEP", x.span(0, true), 0);
        NearEnough y = stocked();
        y.end(0);
        Check.tape(y, Check.bytes("row q has 3 from 2 to 4;sum s of q;most m of q;end s off 3 never;"));
        Check.due("another PROGRAM", y.program(), 2);
        Check.due("the FRONT of no CHANGES", y.front(0), 1);
        Check.due("saves nothing", y.pair(0, 0, 1), 0);
        Check.due("the PLAN of no SHEETS", y.plan(0, 400), 0);
        Check.due("no day without a SHEET", y.day(0, 0, 0), NONE);
        Check.due("a first SHEET", y.sheet(false), 0);
        Check.due("its numbers are the least", y.value(0, 0, 0), 6);
        Check.due("a first CHANGE", y.change(0, Kind.SHORT, 1, 5), 0);
        Check.due("nothing is left of THE PURSE", y.day(0, 0, 1), -2);
        Check.due("no GUARD turns back", y.turned(0, 1), 0);
        Check.due("a first GUARD", y.guard(0, 1, 0), 0);
        Check.due("its FRONT", y.front(0), 2);
        Check.due("its PLAN", y.plan(0, 4), 5);
    }

    /** "SHEETS are none then": those of the PROGRAM ahead are not among the new ones. */
    private static void theOldSheetsAreGone() {
        String text = "row r has 2 from 0 to 9;sum s of r;most m of r;end s off 3 mean;";
        NearEnough x = Check.told(text);
        for (int sheet = 0; sheet < 40; sheet++) {
            x.sheet(sheet % 2 == 0);
            Check.fill(x, sheet, 0, 9, 9);
        }
        x.change(0, Kind.SHORT, 1, 7);
        x.guard(0, 1, 0);
        Check.due("all err", x.mean(0, 1, 0), 9);
        Check.due("all turn back", x.turned(0, 0), 40);
        Check.due("worst", x.worst(0, 1, 0), -9);
        Check.tape(x, Check.bytes(text));
        x.program();
        x.change(0, Kind.SHORT, 1, 7);
        for (int sheet = 0; sheet < 2; sheet++) {
            Check.due("no value on it", x.value(0, sheet, 1), NONE);
            x.sheet(true);
            Check.due("measured", x.measured(0, 1), 0);
            Check.due("passed", x.passed(0, 1), 0);
            Check.due("mean", x.mean(0, 1, 0), 0);
            Check.due("let", x.let(1), 1);
            Check.due("through", x.through(0, 1), 0);
            Check.due("turned", x.turned(0, 0), 0);
            Check.due("plan", x.plan(0, 0), 7 * (sheet + 1));
        }
        x.guard(0, 1, 0);
        Check.due("turned by a new GUARD", x.turned(0, 0), 0);
    }

    /** A PROGRAM with all that a new one takes away, and a FAULT on the TAPE. */
    private static NearEnough stocked() {
        NearEnough x = Check.told(SUM + "end s off 3 one;");
        x.sheet(true);
        x.put(0, 0, 1, 4);
        x.change(0, Kind.SHORT, 1, 7);
        x.guard(0, 0, 0);
        x.purse(50);
        x.front(0);
        x.plan(0, 10);
        x.day(0, 0, 1);
        Check.tape(x, Check.bytes("row"));
        return x;
    }

    /** "NONE: a FAULT (all stays)." */
    private static void aFaultLeavesAll() {
        NearEnough x = stocked();
        for (int turn = 0; turn < 2; turn++) {
            Check.due("a FAULT", x.program(), NONE);
            int[] stays = {1, 1, 1, 1, 1, 1, 46, 3};
            for (int what = 0; what < 8; what++) {
                Check.due("about " + what + " stays", x.about(what), stays[what]);
            }
            Check.spanOf(x, 0, 0, 15);
            Check.due("value stays", x.value(0, 0, 0), 4);
            Check.due("saved stays", x.saved(1), 7);
            Check.due("off stays", x.off(0, 1), 10);
            Check.due("the FRONT stays", x.front(0), 2);
            Check.due("the PLAN stays", x.plan(0, 4), 7);
        }
    }

    /** "Of the latest program() what 0: its FAULT (0), 1: its place (NONE). NONE for another what." */
    private static void theLatestFault() {
        NearEnough x = new NearEnough();
        latest(x, 0, NONE);
        Check.tape(x, Check.bytes("row r has 7"));
        latest(x, 0, NONE);
        x.program();
        latest(x, 4, 10);
        x.end(9);
        latest(x, 4, 10);
        x.program();
        latest(x, 2, 9);
        x.end(0);
        x.feed(-1, -1, -1, -1, -1);
        x.program();
        latest(x, 1, 0);
        x.end(0);
        x.program();
        latest(x, 0, NONE);
    }

    private static void latest(NearEnough x, int fault, int place) {
        Check.due("fault", x.fault(0), fault);
        Check.due("its place", x.fault(1), place);
        int[] others = {2, -1, 7, Integer.MIN_VALUE, Integer.MAX_VALUE};
        for (int what : others) {
            Check.due("fault " + what, x.fault(what), NONE);
        }
    }

    /** "Words (a .. z, 8 at most); each is as long as can be." */
    private static void wordsOfLettersEightAtMost() {
        Check.good(1, "row abcdefgh has 1 from 0 to 0;sum zyxwvuts of abcdefgh;");
        Check.good(2, "row a has 1 from 0 to 0;sum z of a;most zzzzzzzz of a;");
        Check.fault(1, "row |abcdefghi has 1 from 0 to 0;");
        Check.fault(1, "row |zzzzzzzzz");
        Check.fault(1, "|aaaaaaaaaaaaaaaaaaaa");
        Check.fault(1, SUM + "sum t of |rrrrrrrrr;");
        Check.fault(1, SUM + "end s off 1 |neverever;");
        Check.fault(1, "row |" + (char) ('a' - 1) + ";");
        Check.fault(1, "row |" + (char) ('z' + 1) + ";");
        Check.fault(1, "row |A");
        Check.fault(1, "row |Z");
        Check.fault(2, "row xrow|");
        Check.fault(2, "|rowr has 1");
        Check.fault(2, "row r has 1 from 0 to 0;|sums of r;");
        Check.fault(5, "row aaaaaaaa has 1 from 0 to 0;sum s of |aaaaaaab;");
        Check.fault(5, "row aaaaaaaa has 1 from 0 to 0;sum s of |baaaaaaa;");
        Check.fault(5, "row aa has 1 from 0 to 0;sum s of |a;");
        Check.fault(5, "row a has 1 from 0 to 0;sum s of |aa;");
    }

    /** "N (1 to 4 digits)." */
    private static void numbersOfOneToFourDigits() {
        Check.good(0, "row r has 0001 from -0999 to 0000;");
        Check.good(0, "row r has 6 from 9 to 0123;");
        Check.good(1, SUM + "end s off 0000 never;");
        Check.good(1, SUM + "end s off 9999 never;");
        Check.fault(1, "row r has |00001 from 0 to 0;");
        Check.fault(1, "row r has 1 from |00000 to 0;");
        Check.fault(1, "row r has 1 from 0 to |10000;");
        Check.fault(1, "row r has 1 from 0 to -|99999;");
        Check.fault(1, "row r has |99999999999999999999");
        Check.fault(1, SUM + "end s off |10000 never;");
        Check.fault(1, SUM + "end s off |00009 never;");
        Check.fault(1, "row r has |" + (char) ('0' - 1));
        Check.fault(1, "row r has |" + (char) ('9' + 1));
    }

    /** "Signs ; -; blanks (32, 10) part them or not." */
    private static void onlyTwoSignsAndTwoBlanks() {
        for (int sign = 0; sign < 256; sign++) {
            boolean letter = sign >= 'a' && sign <= 'z';
            boolean digit = sign >= '0' && sign <= '9';
            if (sign == ' ' || sign == '\n') {
                Check.good(1, (char) sign + ROW + (char) sign + "sum" + (char) sign + "s of r" + (char) sign + ";" + (char) sign);
            } else if (letter || digit || sign == ';' || sign == '-') {
                Check.fault(2, SUM + "|" + (char) sign);
            } else {
                Check.fault(1, SUM + "|" + (char) sign);
                Check.fault(1, SUM + "sum|" + (char) sign + "t of r;");
            }
        }
        Check.good(0, "row r has3 from-5 to-5;row q has1 from0 to0;");
        Check.good(2, "row\nr\nhas\n3\nfrom\n-\n5\nto\n-  5\n;sum s of r;scale t s by-9 over9;end t off9 one;");
    }

    /** "No letter directly behind an N." */
    private static void noLetterBehindANumber() {
        Check.fault(1, "row r has |3a");
        Check.fault(1, "row r has |3z");
        Check.fault(1, "row r has |3from 0 to 5;");
        Check.fault(1, "row r has |0003from 0 to 5;");
        Check.fault(1, "row r has 3 from |0to 5;");
        Check.fault(1, "row r has 3 from -|1to 5;");
        Check.fault(1, SUM + "end s off |1one;");
        Check.good(0, "row r has 3\nfrom 0 to 5;");
        Check.fault(1, "row r has 3|" + (char) ('a' - 1));
        Check.fault(1, "row r has 3|" + (char) ('z' + 1));
        Check.fault(2, "row r has 3|-");
        Check.fault(2, "row r has 3|;");
    }

    /** "Words that stand for themselves here are no NAMES." */
    private static void ownWordsAreNoNames() {
        for (String word : OWN_WORDS) {
            Check.fault(2, "row |" + word + " has 1");
            Check.fault(2, SUM + "most |" + word + " of r;");
            Check.fault(2, SUM + "most m of |" + word + ";");
            Check.fault(2, SUM + "add t s |" + word + ";");
            Check.fault(2, SUM + "end |" + word + " off 1 one;");
            Check.good(0, "row " + word + "x has 1 from 0 to 0;");
            Check.good(0, "row x" + word + " has 1 from 0 to 0;");
        }
        Check.good(0, "row skip has 1 from 0 to 0;row bits has 1 from 0 to 0;");
        Check.good(0, "row ro has 1 from 0 to 0;row w has 1 from 0 to 0;");
    }

    /** NAMES are like ones only if all their letters are. */
    private static void namesThatDiffer() {
        for (char one = 'a'; one <= 'z'; one++) {
            for (char other = 'a'; other <= 'z'; other++) {
                String name = "" + one + other;
                unlike(name, "" + other);
                unlike(name, one + "a" + other);
                if (one != other) {
                    unlike(name, "" + other + one);
                    unlike("" + one, "" + other);
                    unlike("x" + one + "yyyyyy", "x" + other + "yyyyyy");
                    unlike("xxxxxxx" + one, "xxxxxxx" + other);
                    unlike(one + "xxxxxxx", other + "xxxxxxx");
                }
            }
        }
    }

    private static void unlike(String name, String other) {
        if (Arrays.asList(OWN_WORDS).contains(name) || Arrays.asList(OWN_WORDS).contains(other)) {
            return;
        }
        Check.fault(5, "row " + name + " has 1 from 0 to 0;sum oooo of |" + other + ";");
        Check.good(1, "row " + name + " has 1 from 0 to 0;sum " + other + " of " + name + ";");
    }

    /** "2 one that can't stand there": each TOKEN of each line with one of another kind in its place. */
    private static void tokensThatCanNotStandThere() {
        String[] lines = {"row q has 1 from 2 to 3 ;", "sum t of r ;", "most t of r ;", "add t s s ;", "less t s s ;",
            "times t s s ;", "scale t s by 1 over 1 ;", "at t r place s ;", "pick t s s if s under s ;",
            "end s off 1 never ;"};
        String[] others = {"row", "of", "one", "s", "zz", "5", ";", "-"};
        for (String line : lines) {
            String[] tokens = line.split(" ");
            for (int i = 0; i < tokens.length; i++) {
                String ahead = SUM + String.join(" ", Arrays.copyOf(tokens, i)) + " |";
                String behind = " " + String.join(" ", Arrays.copyOfRange(tokens, i + 1, tokens.length));
                Check.fault(1, ahead + "?" + behind);
                for (String other : others) {
                    if (!canStandFor(tokens, i, other)) {
                        Check.fault(2, ahead + other + behind);
                    }
                }
            }
        }
        Check.fault(2, "row r has 1 from -|- 1 to 1;");
        Check.fault(2, "row r has 1 from 0 to -|;");
        Check.fault(2, "row r has 1 from 0 to - |to;");
        Check.fault(2, SUM + "scale t s by -|x over 1;");
    }

    /** Whether a TOKEN is of the kind that stands at a place of a line, though it may be wrong there in another way. */
    private static boolean canStandFor(String[] tokens, int i, String other) {
        String due = tokens[i];
        boolean otherIsName = other.equals("s") || other.equals("zz");
        if (Character.isDigit(due.charAt(0))) {
            boolean mayHaveSign = tokens[i - 1].equals("from") || tokens[i - 1].equals("to") || tokens[i - 1].equals("by");
            return other.equals("5") || other.equals("-") && mayHaveSign;
        }
        if (i == 0) {
            return other.equals("row");
        }
        boolean dueIsName = due.length() == 1 && Character.isLetter(due.charAt(0));
        return dueIsName ? otherIsName : due.equals(other) || due.equals("never") && other.equals("one");
    }

    /** "At most 2 ROWS." "A 3rd ROW: at the line's first word." */
    private static void twoRows() {
        String two = "row a has 1 from 0 to 0;row b has 1 from 0 to 0;";
        Check.good(0, two);
        Check.fault(2, two + "|row c has 1 from 0 to 0;");
        Check.fault(2, two + "|row");
        Check.fault(2, two + "|row ?");
        Check.fault(2, two + "sum s of a; |row a has 9");
        NearEnough x = Check.good(2, "row a has 1 from 0 to 1;sum s of a;row b has 2 from 3 to 4;sum t of b;");
        Check.due("two ROWS", x.about(0), 2);
        Check.spanOf(x, 0, 0, 1);
        Check.spanOf(x, 1, 6, 8);
        x.sheet(false);
        Check.due("ROW 0 is the first told", x.put(0, 0, 0, 1), true);
        Check.due("ROW 1 the second", x.put(0, 1, 1, 4), true);
        Check.due("sum of ROW 0", x.value(0, 0, 0), 1);
        Check.due("sum of ROW 1", x.value(1, 0, 0), 7);
    }

    private static String steps(int many) {
        StringBuilder steps = new StringBuilder(ROW);
        for (int i = 0; i < many; i++) {
            steps.append("sum s").append((char) ('a' + i)).append(" of r;");
        }
        return steps.toString();
    }

    /** "12 STEPS (all lines but row and end, numbered as told)." "A 13th STEP: at the line's first word." */
    private static void twelveSteps() {
        String twelve = steps(12);
        Check.good(12, twelve);
        String[] lines = {"sum x of r;", "most x of r;", "add x sa sa;", "less x sa sa;", "times x sa sa;",
            "scale x sa by 1 over 1;", "at x r place sa;", "pick x sa sa if sa under sa;"};
        for (String line : lines) {
            Check.good(12, steps(11) + line);
            Check.fault(2, twelve + "|" + line);
        }
        Check.fault(2, twelve + "|sum");
        Check.fault(2, twelve + "|most ?");
        Check.fault(2, twelve + " |most sa of q");
        Check.good(12, twelve + "row q has 1 from 0 to 0;end sl off 0 one;");
        NearEnough x = Check.good(12, steps(11) + "most m of r;end m off 1 one;end sa off 2 one;");
        Check.spanOf(x, 10, 0, 15);
        Check.spanOf(x, 11, 0, 5);
        Check.due("the last STEP can be changed", x.change(11, Kind.LEFT, 0, 0), 0);
        Check.due("one behind can't", x.change(12, Kind.LEFT, 0, 0), NONE);
        Check.due("END 0 is the first told", x.off(0, 1), 3);
        Check.due("END 1 the second", x.off(1, 1), 0);
    }

    /** "4 ENDS (of a STEP, off 0 .. 9999)." "A 5th END: at the line's first word." */
    private static void fourEnds() {
        String four = steps(5) + "end sa off 1 one;end sb off 1 one;end sc off 1 one;end sd off 1 one;";
        NearEnough x = Check.good(5, four);
        Check.due("four", x.about(2), 4);
        Check.due("the last END", x.off(3, 0), 0);
        Check.due("none behind it", x.off(4, 0), NONE);
        Check.fault(2, four + "|end se off 1 one;");
        Check.fault(2, four + "|end");
        Check.fault(2, four + "|end sa off 1 one;");
        Check.fault(2, four + " |end r");
        Check.good(6, four + "most m of r;");
    }

    /** "Has 1 .. 6 numbers; V -999 .. 999, the second not below the first." "4 a number that can't be." */
    private static void numbersOfARow() {
        for (int has = 1; has <= 6; has++) {
            NearEnough x = Check.good(1, "row r has " + has + " from 0 to 5;sum s of r;");
            Check.spanOf(x, 0, 0, 5L * has);
            x.sheet(false);
            Check.due("the last place", x.put(0, 0, has - 1, 5), true);
            Check.due("no place behind", x.put(0, 0, has, 5), false);
        }
        Check.fault(4, "row r has |0 from 0 to 5;");
        Check.fault(4, "row r has |7 from 0 to 5;");
        Check.fault(4, "row r has |9999 from 0 to 5;");
        Check.fault(2, "row r has |-1 from 0 to 5;");
        Check.spanOf(Check.good(1, "row r has 1 from -999 to 999;sum s of r;"), 0, -999, 999);
        Check.spanOf(Check.good(1, "row r has 6 from -999 to -999;sum s of r;"), 0, -5994, -5994);
        Check.spanOf(Check.good(1, "row r has 6 from 999 to 999;sum s of r;"), 0, 5994, 5994);
        Check.spanOf(Check.good(1, "row r has 6 from -0 to 0;sum s of r;"), 0, 0, 0);
        Check.spanOf(Check.good(1, "row r has 1 from 0 to - 0;sum s of r;"), 0, 0, 0);
        Check.fault(4, "row r has 1 from |-1000 to 0;");
        Check.fault(4, "row r has 1 from |1000 to 0;");
        Check.fault(4, "row r has 1 from |- \n1000 to 0;");
        Check.fault(4, "row r has 1 from 0 to |1000;");
        Check.fault(4, "row r has 1 from -999 to |-1000;");
        Check.fault(4, "row r has 1 from 0 to |-1;");
        Check.fault(4, "row r has 1 from 0 to |- 1;");
        Check.fault(4, "row r has 1 from 999 to |998;");
        Check.fault(4, "row r has 1 from -998 to |-999;");
        Check.good(0, "row r has 1 from 998 to 999;");
        Check.good(0, "row r has 1 from -999 to -998;");
    }

    /** "Scale by -99 .. 99 over 1 .. 99." */
    private static void numbersOfAScale() {
        Check.spanOf(Check.good(2, SUM + "scale t s by 99 over 1;"), 1, 0, 1485);
        Check.spanOf(Check.good(2, SUM + "scale t s by -99 over 1;"), 1, -1485, 0);
        Check.spanOf(Check.good(2, SUM + "scale t s by 0 over 99;"), 1, 0, 0);
        Check.spanOf(Check.good(2, SUM + "scale t s by 99 over 99;"), 1, 0, 15);
        Check.fault(4, SUM + "scale t s by |100 over 1;");
        Check.fault(4, SUM + "scale t s by |-100 over 1;");
        Check.fault(4, SUM + "scale t s by |- 100 over 1;");
        Check.fault(4, SUM + "scale t s by 1 over |0;");
        Check.fault(4, SUM + "scale t s by 1 over |100;");
        Check.fault(2, SUM + "scale t s by 1 over |-1;");
    }

    /** "End NAME off N (never | mean | one)", off 0 .. 9999. */
    private static void numbersOfAnEnd() {
        String[] kinds = {"never", "mean", "one"};
        for (String kind : kinds) {
            Check.good(1, SUM + "end s off 0 " + kind + ";");
            Check.good(1, SUM + "end s off 9999 " + kind + ";");
        }
        Check.fault(2, SUM + "end s off |-1 one;");
        Check.fault(2, SUM + "end s off 1 |always;");
        Check.fault(2, SUM + "end s off 1 |ones;");
        Check.fault(2, SUM + "end s off 1 |on;");
        Check.fault(2, SUM + "end s off 1 never |mean;");
    }

    /** "The end: the text's length": each line that ends too early, behind each of its TOKENS. */
    private static void theEndOfTheText() {
        String[] lines = {"row q has 1 from - 2 to - 1 ;", "sum t of r ;", "most t of r ;", "add t s s ;", "less t s s ;",
            "times t s s ;", "scale t s by - 1 over 1 ;", "at t r place s ;", "pick t s s if s under s ;",
            "end s off 1 never ;"};
        for (String line : lines) {
            String[] tokens = line.split(" ");
            StringBuilder text = new StringBuilder(SUM);
            for (int i = 0; i < tokens.length - 1; i++) {
                text.append(tokens[i]);
                Check.fault(2, text + "|");
                Check.fault(2, text + " \n|");
                text.append(' ');
            }
            Check.good(line.startsWith("row") || line.startsWith("end") ? 1 : 2, text + ";");
        }
    }

    /** "3 a NAME told already (of a ROW or STEP), or a second END of a STEP." */
    private static void namesToldAlready() {
        Check.fault(3, ROW + "row |r has 1 from 0 to 0;");
        Check.fault(3, SUM + "row |s has 1 from 0 to 0;");
        Check.fault(3, SUM + "sum |r of r;");
        Check.fault(3, SUM + "sum |s of r;");
        Check.fault(3, SUM + "at |s r place s;");
        Check.fault(3, SUM + "end s off 0 one;end |s off 0 one;");
        Check.fault(3, SUM + "most m of r;end s off 0 one;end m off 0 one;end |s off 1 mean;");
        Check.good(2, SUM + "most m of r;end m off 0 one;end s off 0 one;");
        Check.good(2, SUM + "end s off 0 one;most m of r;");
    }

    /** "5 a NAME that is no ROW where one must stand, or no STEP (told ahead)." */
    private static void namesOfAnotherKind() {
        String[] places = {"sum t of |?;", "most t of |?;", "at t |? place s;"};
        for (String line : places) {
            Check.fault(5, SUM + line.replace("?", "s"));
            Check.fault(5, SUM + line.replace("?", "t"));
            Check.fault(5, SUM + line.replace("?", "x") + "row x has 1 from 0 to 0;");
        }
        String[] ofSteps = {"add t |? s;", "add t s |?;", "less t |? s;", "less t s |?;", "times t |? s;", "times t s |?;",
            "scale t |? by 1 over 1;", "at t r place |?;", "pick t |? s if s under s;", "pick t s |? if s under s;",
            "pick t s s if |? under s;", "pick t s s if s under |?;", "end |? off 1 one;"};
        for (String line : ofSteps) {
            Check.fault(5, SUM + line.replace("?", "r"));
            Check.fault(5, SUM + line.replace("?", "t"));
            Check.fault(5, SUM + line.replace("?", "x") + "sum x of r;");
        }
    }

    /** "FAULTS, the first by its place; of V its place is that of its sign; at one place the least." */
    private static void theFirstFaultByItsPlace() {
        Check.fault(4, "row r has |7 from 1000 to -1000;?");
        Check.fault(4, "row r has 1 from |1000 to ?");
        Check.fault(4, "row r has 1 from |-1000 to ?");
        Check.fault(3, SUM + "sum |s of x ?");
        Check.fault(5, SUM + "add t |x y ?");
        Check.fault(5, SUM + "add t |x ?");
        Check.fault(1, SUM + "add |? x y");
        Check.fault(2, SUM + "add |; x y");
        Check.fault(2, SUM + "|s s s");
        Check.fault(2, SUM + "|-;");
        Check.fault(3, SUM + "end s off 1 one;end |s off ?");
        Check.fault(7, FAR + "add |f d d;?");
        Check.fault(7, FAR + "add |f d d;add f x x;");
        Check.fault(3, FAR + "add |d d d;");
    }

    /** "7 (at the STEP's own NAME) its SPAN goes beyond 1000000000, either way." */
    private static void spansUpToTheFarthest() {
        NearEnough x = Check.good(6, FAR);
        Check.spanOf(x, 3, 0, 1);
        Check.spanOf(x, 4, 0, 1000000000);
        Check.spanOf(x, 5, -1000000000, 0);
        Check.good(7, FAR + "less f d o;");
        Check.good(7, FAR + "add f e o;");
        Check.fault(7, FAR + "add |f d o;");
        Check.fault(7, FAR + "less |f e o;");
        Check.fault(7, FAR + "less |f o e;");
        Check.fault(7, FAR + "times |f d d;");
        Check.fault(7, FAR + "times |f d e;");
        Check.fault(7, FAR + "scale |f d by 2 over 1;");
        Check.fault(7, FAR + "scale |f e by 2 over 1;");
        Check.fault(7, FAR + "scale |f d by 99 over 98;");
        Check.good(7, FAR + "scale f d by -99 over 99;");
        Check.good(7, FAR + "pick f d e if o under d;");
    }

    /** "7 comes behind all that is in the line but its ;." */
    private static void theFarthestComesLast() {
        Check.fault(5, FAR + "add f d |x;");
        Check.fault(5, FAR + "times f d |f;");
        Check.fault(1, FAR + "add f d |?;");
        Check.fault(2, FAR + "add f d |;");
        Check.fault(2, FAR + "add f d|");
        Check.fault(4, FAR + "scale f d by 99 over |0;");
        Check.fault(4, FAR + "scale f d by 99 over |100;");
        Check.fault(2, FAR + "scale f d by 99|");
        Check.fault(7, FAR + "add |f d d");
        Check.fault(7, FAR + "add |f d d d;");
        Check.fault(7, FAR + "add |f d d?");
        Check.fault(7, FAR + "add |f d d abcdefghi");
        Check.fault(7, FAR + "scale |f d by 99 over 1");
        Check.fault(7, FAR + "scale |f d by 99 over 1 end");
    }

    private static void product(int a, int b, int c, int d, long low, long high) {
        NearEnough x = Check.good(3, "row p has 1 from " + a + " to " + b + ";row q has 1 from " + c + " to " + d
                + ";sum s of p;sum t of q;times u s t;");
        Check.spanOf(x, 2, low, high);
    }

    /** "Add, less, times: of all four pairs of ends." */
    private static void spansOfProducts() {
        product(2, 3, 5, 7, 10, 21);
        product(-3, -2, -7, -5, 10, 21);
        product(-3, -2, 5, 7, -21, -10);
        product(2, 3, -7, -5, -21, -10);
        product(-2, 3, -5, 7, -15, 21);
        product(-3, 2, -5, 7, -21, 15);
        product(-3, 2, -7, 5, -15, 21);
        product(-2, 3, -7, 5, -21, 15);
        product(-3, 2, 0, 0, 0, 0);
        NearEnough x = Check.good(4, "row p has 1 from -3 to 2;row q has 1 from 5 to 9;sum s of p;sum t of q;add u s t;"
                + "less v s t;");
        Check.spanOf(x, 2, 2, 11);
        Check.spanOf(x, 3, -12, -3);
    }

    /** "Scale: of both ends", cut towards 0. */
    private static void spansOfScales() {
        NearEnough x = Check.good(7, "row r has 1 from -7 to 5;sum s of r;scale a s by 1 over 2;scale b s by -1 over 2;"
                + "scale c s by 3 over 4;scale d s by -3 over 4;scale e s by 1 over 8;scale f s by 0 over 1;");
        Check.spanOf(x, 1, -3, 2);
        Check.spanOf(x, 2, -2, 3);
        Check.spanOf(x, 3, -5, 3);
        Check.spanOf(x, 4, -3, 5);
        Check.spanOf(x, 5, 0, 0);
        Check.spanOf(x, 6, 0, 0);
    }

    /** "Pick: the lesser and the greater of both STEPS'." */
    private static void spansOfPicks() {
        String text = "row p has 1 from -3 to 2;row q has 1 from 5 to 9;sum s of p;sum t of q;";
        Check.spanOf(Check.good(3, text + "pick u s t if s under t;"), 2, -3, 9);
        Check.spanOf(Check.good(3, text + "pick u t s if s under t;"), 2, -3, 9);
        Check.spanOf(Check.good(3, text + "pick u s s if s under t;"), 2, -3, 2);
        Check.spanOf(Check.good(3, text + "pick u t t if s under t;"), 2, 5, 9);
        NearEnough x = Check.good(4, "row p has 2 from -3 to 2;sum s of p;most m of p;pick u s m if s under m;"
                + "pick v m s if s under m;");
        Check.spanOf(x, 2, -6, 4);
        Check.spanOf(x, 3, -6, 4);
    }

    /** "SPAN of a STEP; 0 if there is none such." */
    private static void noSpanOfNoStep() {
        NearEnough x = Check.good(1, "row r has 1 from 3 to 4;sum s of r;");
        Check.spanOf(x, 0, 3, 4);
        int[] others = {1, -1, 11, 12, Integer.MIN_VALUE, Integer.MAX_VALUE};
        for (int step : others) {
            Check.spanOf(x, step, 0, 0);
        }
    }
}
