/** Each sentence on SHEETS, CHANGES, what comes, what is SHOWN, measured and LET that names a bound: promises 7 to 19. */
public final class SheetEdgeTest {
    private static final int NONE = NearEnough.NONE;
    private static final int LOWEST = Integer.MIN_VALUE;
    private static final int HIGHEST = Integer.MAX_VALUE;
    private static final String SIX = "row r has 6 from -999 to 999;sum s of r;most m of r;";
    private static final String TWO = "row r has 2 from 0 to 9;sum s of r;";
    // STEPS: 0 s, 1 a (its place is s), 2 t.
    private static final String PLACED = "row r has 3 from 0 to 9;sum s of r;at a r place s;most t of r;";

    private SheetEdgeTest() {
    }

    public static void main(String[] args) {
        fortySheets();
        theLeastAtFirst();
        numbersThatCanBePut();
        kindsOfChanges();
        numbersOfChanges();
        twelveChanges();
        sumsThatSkip();
        numbersOfFewerBits();
        coarseRows();
        usualPicks();
        middlesRoundedDown();
        shortRows();
        oldRows();
        placesAndPicks();
        scalesCutTowardsNone();
        setsOfChanges();
        valuesThatCanNotBe();
        spansOfSkip();
        spansOfShortAndOld();
        spansOfBitsAndCoarse();
        spansOfAddAndLess();
        spansOfScales();
        spansOfTimes();
        spansOfPicks();
        spansOfUsual();
        spansOfLeft();
        barredByAPlace();
        barredBeyondTheFarthest();
        barredByTheFirstOfAll();
        barredAnswers();
        theGreaterIsOff();
        measuredAndPassed();
        meansInLowestTerms();
        savedByAll();
        ticksOfAll();
        letNever();
        letMean();
        letOne();
        letOfAllEnds();
        Check.finish();
    }

    /** An object with one SHEET and these numbers in ROW 0. */
    private static NearEnough sheeted(String text, int... numbers) {
        NearEnough x = Check.told(text);
        x.sheet(false);
        Check.fill(x, 0, 0, numbers);
        return x;
    }

    /** Tells one more CHANGE that must be; the CHOICE of it alone. */
    private static int changed(NearEnough x, int step, int kind, int n) {
        int number = x.change(step, kind, n, 1);
        Check.due("CHANGE " + kind + " with " + n + " of STEP " + step, number, x.about(4) - 1);
        return 1 << number;
    }

    private static void value(NearEnough x, int step, int kind, int n, long due) {
        int choice = changed(x, step, kind, n);
        Check.due("by " + kind + " with " + n + " of STEP " + step, x.value(step, 0, choice), due);
    }

    private static void span(NearEnough x, int step, int kind, int n, long low, long high) {
        Check.errorOf(x, step, changed(x, step, kind, n), low, high);
    }

    /** "SHEETS, 40 at most." "Its number; NONE, doing nothing, if there are 40." */
    private static void fortySheets() {
        NearEnough x = Check.told(TWO + "end s off 9 one;");
        changed(x, 0, Kind.SHORT, 1);
        for (int sheet = 0; sheet < 40; sheet++) {
            Check.due("how many ahead", x.about(3), sheet);
            Check.due("its number", x.sheet(sheet >= 38), sheet);
        }
        Check.fill(x, 39, 0, 1, 7);
        for (int turn = 0; turn < 2; turn++) {
            Check.due("a 41st", x.sheet(turn == 0), NONE);
            Check.due("40", x.about(3), 40);
            Check.due("no SHEET 40", x.put(40, 0, 0, 1), false);
            Check.due("no value on it", x.value(0, 40, 0), NONE);
            Check.due("the last is as it was", x.value(0, 39, 0), 8);
            Check.due("it is still kept back", x.passed(0, 1), 1);
            Check.due("and is not measured", x.measured(0, 1), 0);
        }
    }

    /** "A number for each place of each ROW (its least at first), kept back or not." */
    private static void theLeastAtFirst() {
        NearEnough x = Check.told("row r has 6 from -7 to 9;row q has 6 from 3 to 5;sum s of r;sum t of q;most m of r;");
        x.sheet(false);
        Check.fill(x, 0, 0, 9, 9, 9, 9, 9, 9);
        Check.fill(x, 0, 1, 5, 5, 5, 5, 5, 5);
        Check.due("all the greatest", x.value(0, 0, 0), 54);
        Check.due("of ROW 1, too", x.value(1, 0, 0), 30);
        x.sheet(true);
        Check.due("another SHEET has the least", x.value(0, 1, 0), -42);
        Check.due("of ROW 1, too", x.value(1, 1, 0), 18);
        Check.due("the most of them", x.value(2, 1, 0), -7);
        Check.due("the first is as it was", x.value(0, 0, 0), 54);
    }

    /** "A number of a SHEET's ROW at a place: true; false, doing nothing, if one can't be (beyond its ROW's, too)." */
    private static void numbersThatCanBePut() {
        NearEnough x = Check.told("row r has 3 from -4 to 9;row q has 2 from 0 to 3;sum s of r;sum t of q;");
        x.sheet(false);
        Check.fill(x, 0, 0, 1, 2, 3);
        Check.fill(x, 0, 1, 1, 1);
        int[][] wrong = {{-1, 0, 0, 0}, {1, 0, 0, 0}, {39, 0, 0, 0}, {40, 0, 0, 0}, {LOWEST, 0, 0, 0}, {HIGHEST, 0, 0, 0},
            {0, -1, 0, 0}, {0, 2, 0, 0}, {0, LOWEST, 0, 0}, {0, HIGHEST, 0, 0}, {0, 0, -1, 0}, {0, 0, 3, 0}, {0, 1, -1, 0},
            {0, 1, 2, 0}, {0, 0, LOWEST, 0}, {0, 1, HIGHEST, 0}, {0, 0, 0, -5}, {0, 0, 2, 10}, {0, 1, 0, -1}, {0, 1, 1, 4},
            {0, 0, 0, LOWEST}, {0, 0, 0, HIGHEST}};
        for (int[] put : wrong) {
            Check.due("put of what can't be", x.put(put[0], put[1], put[2], put[3]), false);
            Check.due("ROW 0 is as it was", x.value(0, 0, 0), 6);
            Check.due("ROW 1 is as it was", x.value(1, 0, 0), 2);
        }
        Check.fill(x, 0, 0, -4, 9, 9);
        Check.due("the least and the greatest", x.value(0, 0, 0), 14);
        Check.fill(x, 0, 1, 0, 3);
        Check.due("of ROW 1", x.value(1, 0, 0), 3);
        NearEnough one = sheeted(TWO, 4, 5);
        Check.due("no second ROW", one.put(0, 1, 0, 0), false);
        NearEnough like = sheeted("row r has 1 from 7 to 7;sum s of r;", 7);
        Check.due("one below", like.put(0, 0, 0, 6), false);
        Check.due("one above", like.put(0, 0, 0, 8), false);
    }

    /** Which CHANGE can be "of a sum", "of a pick", "of sum, most, at", "of sum, most", or of any STEP. */
    private static void kindsOfChanges() {
        String all = "row r has 2 from 0 to 9;sum a of r;most b of r;at c r place a;add d a b;less e a b;times f a b;"
                + "scale g a by 1 over 2;pick h a b if a under b;";
        int[] n = {2, 1, 0, 2, 0, 1, 0};
        // By kind: the STEPS (as bits) of which it can be.
        int[] fits = {0b00000001, 0b11111111, 0b10000000, 0b00000111, 0b11111111, 0b00000011, 0b00000111};
        NearEnough x = Check.told(all);
        for (int kind = 0; kind < 7; kind++) {
            for (int step = 0; step < 8; step++) {
                boolean can = (fits[kind] >> step & 1) == 1;
                if (!can) {
                    Check.due("kind " + kind + " of STEP " + step, x.change(step, kind, n[kind], 0), NONE);
                    Check.due("nothing is done", x.about(4), 0);
                } else {
                    Check.due("kind " + kind + " of STEP " + step, Check.told(all).change(step, kind, n[kind], 0), 0);
                }
            }
        }
        int[] noKinds = {-1, 7, LOWEST, HIGHEST};
        for (int kind : noKinds) {
            Check.due("no kind", x.change(0, kind, 2, 0), NONE);
            Check.due("no kind", x.change(7, kind, 0, 0), NONE);
        }
        int[] noSteps = {-1, 8, 12, LOWEST, HIGHEST};
        for (int step : noSteps) {
            Check.due("no STEP", x.change(step, Kind.BITS, 1, 0), NONE);
        }
        Check.due("nothing is done", x.about(4), 0);
    }

    private static void numbersOf(int step, int kind, int least, int greatest) {
        String text = "row r has 2 from 0 to 9;sum a of r;at b r place a;pick c a a if a under a;";
        NearEnough x = Check.told(text);
        int[] wrong = {least - 1, greatest + 1, LOWEST, HIGHEST, -2};
        for (int n : wrong) {
            Check.due("kind " + kind + " with " + n, x.change(step, kind, n, 0), NONE);
            Check.due("nothing is done", x.about(4), 0);
        }
        for (int n = least; n <= greatest; n++) {
            Check.due("kind " + kind + " with " + n, Check.told(text).change(step, kind, n, 0), 0);
        }
    }

    /** "SKIP n (2 .. 6)", "BITS n (1 .. 10)", "USUAL n (0, 1)" and so on; "each saves so much (0 .. 999)". */
    private static void numbersOfChanges() {
        numbersOf(0, Kind.SKIP, 2, 6);
        numbersOf(2, Kind.BITS, 1, 10);
        numbersOf(2, Kind.USUAL, 0, 1);
        numbersOf(1, Kind.COARSE, 2, 99);
        numbersOf(2, Kind.LEFT, 0, 0);
        numbersOf(0, Kind.SHORT, 1, 5);
        numbersOf(1, Kind.OLD, 0, 0);
        NearEnough x = Check.told(TWO);
        int[] wrong = {-1, 1000, LOWEST, HIGHEST};
        for (int saves : wrong) {
            Check.due("saves " + saves, x.change(0, Kind.LEFT, 0, saves), NONE);
            Check.due("nothing is done", x.about(4), 0);
        }
        Check.due("saves 0", x.change(0, Kind.LEFT, 0, 0), 0);
        Check.due("saves 999", x.change(0, Kind.LEFT, 0, 999), 1);
        Check.due("nothing", x.saved(1), 0);
        Check.due("much", x.saved(2), 999);
    }

    /** "CHANGES, 12 at most." "Its number; NONE, doing nothing, if it can't be, or there are 12." */
    private static void twelveChanges() {
        NearEnough x = Check.told(TWO + "most m of r;");
        for (int change = 0; change < 12; change++) {
            Check.due("no such CHOICE yet", x.saved(1 << change), NONE);
            Check.due("its number", x.change(change % 2, Kind.LEFT, 0, 100 + change), change);
            Check.due("what it saves", x.saved(1 << change), 100 + change);
        }
        for (int turn = 0; turn < 2; turn++) {
            Check.due("a 13th", x.change(1, Kind.BITS, 1, 7), NONE);
            Check.due("12", x.about(4), 12);
            Check.due("no CHOICE of it", x.saved(4096), NONE);
            Check.due("the last two", x.saved(0b110000000000), 221);
        }
    }

    /** "SKIP: it takes the numbers at places 0, n, 2 n .., and is their sum * (how many) / t (cut towards 0)." */
    private static void sumsThatSkip() {
        int[] six = {320, 309, 420, 315, 600};
        NearEnough x = sheeted(SIX, 100, 1, 20, 3, 40, 5);
        for (int n = 2; n <= 6; n++) {
            value(x, 0, Kind.SKIP, n, six[n - 2]);
        }
        int[] five = {266, 257, 350, 500, 500};
        NearEnough y = sheeted("row r has 5 from -999 to 999;sum s of r;", 100, 1, 20, 3, 40);
        for (int n = 2; n <= 6; n++) {
            value(y, 0, Kind.SKIP, n, five[n - 2]);
        }
        NearEnough one = sheeted("row r has 1 from -999 to 999;sum s of r;", 7);
        for (int n = 2; n <= 6; n++) {
            value(one, 0, Kind.SKIP, n, 7);
        }
        NearEnough two = sheeted("row r has 2 from -999 to 999;sum s of r;", 7, 1);
        value(two, 0, Kind.SKIP, 2, 14);
        value(two, 0, Kind.SKIP, 3, 14);
        NearEnough below = sheeted("row r has 5 from -999 to 999;sum s of r;", -1, 500, 0, 500, 0);
        int choice = changed(below, 0, Kind.SKIP, 2);
        Check.due("-5 / 3 is cut", below.value(0, 0, choice), -1);
        below.put(0, 0, 4, -1);
        Check.due("-10 / 3 is cut", below.value(0, 0, choice), -3);
        below.put(0, 0, 4, -2);
        Check.due("-15 / 3 is whole", below.value(0, 0, choice), -5);
        below.put(0, 0, 0, 3);
        Check.due("5 / 3 is cut", below.value(0, 0, choice), 1);
    }

    /** "BITS: what comes is made the greatest number not above it that 2 to the power of n divides." */
    private static void numbersOfFewerBits() {
        NearEnough x = sheeted("row r has 2 from -999 to 999;sum s of r;", 0, 0);
        int one = changed(x, 0, Kind.BITS, 1);
        int ten = changed(x, 0, Kind.BITS, 10);
        int[] sums = {0, 1, 2, 3, 1023, 1024, 1025, 1998, -1, -2, -3, -1023, -1024, -1025, -1998};
        int[] byOne = {0, 0, 2, 2, 1022, 1024, 1024, 1998, -2, -2, -4, -1024, -1024, -1026, -1998};
        int[] byTen = {0, 0, 0, 0, 0, 1024, 1024, 1024, -1024, -1024, -1024, -1024, -1024, -2048, -2048};
        for (int i = 0; i < sums.length; i++) {
            Check.fill(x, 0, 0, sums[i] / 2, sums[i] - sums[i] / 2);
            Check.due("plainly", x.value(0, 0, 0), sums[i]);
            Check.due(sums[i] + " by BITS 1", x.value(0, 0, one), byOne[i]);
            Check.due(sums[i] + " by BITS 10", x.value(0, 0, ten), byTen[i]);
        }
    }

    /** "COARSE: each number of the ROW is first made the greatest not above it that n divides." */
    private static void coarseRows() {
        NearEnough x = Check.told("row r has 3 from -999 to 999;sum s of r;most m of r;sum k of r;at a r place k;");
        x.sheet(false);
        int[] numbers = {0, 1, 98, 99, 100, -1, -98, -99, -100, 999, -999};
        int[] by99 = {0, 0, 0, 99, 99, -99, -99, -99, -198, 990, -1089};
        int[] by2 = {0, 0, 98, 98, 100, -2, -98, -100, -100, 998, -1000};
        int[] choices99 = {changed(x, 0, Kind.COARSE, 99), changed(x, 1, Kind.COARSE, 99), changed(x, 3, Kind.COARSE, 99)};
        int[] choices2 = {changed(x, 0, Kind.COARSE, 2), changed(x, 1, Kind.COARSE, 2), changed(x, 3, Kind.COARSE, 2)};
        for (int i = 0; i < numbers.length; i++) {
            Check.fill(x, 0, 0, numbers[i], numbers[i], numbers[i]);
            Check.due("sum of " + numbers[i] + " by 99", x.value(0, 0, choices99[0]), 3L * by99[i]);
            Check.due("most of " + numbers[i] + " by 99", x.value(1, 0, choices99[1]), by99[i]);
            Check.due("at of " + numbers[i] + " by 99", x.value(3, 0, choices99[2]), by99[i]);
            Check.due("sum of " + numbers[i] + " by 2", x.value(0, 0, choices2[0]), 3L * by2[i]);
            Check.due("most of " + numbers[i] + " by 2", x.value(1, 0, choices2[1]), by2[i]);
            Check.due("at of " + numbers[i] + " by 2", x.value(3, 0, choices2[2]), by2[i]);
        }
        Check.fill(x, 0, 0, 1, 1, 1);
        Check.due("each is made first, not the sum", x.value(0, 0, choices2[0]), 0);
    }

    /** "USUAL: the first (0), second (1) always." "Pick: the first of two STEPS if one is under another one, else the second." */
    private static void usualPicks() {
        // STEPS: 0 a, 1 b, 2 s, 3 t, 4 p.
        NearEnough x = Check.told("row r has 1 from 0 to 9;row q has 1 from 0 to 9;sum a of r;sum b of q;add s a a;"
                + "add t b b;pick p s t if a under b;");
        x.sheet(false);
        int first = changed(x, 4, Kind.USUAL, 0);
        int second = changed(x, 4, Kind.USUAL, 1);
        int[][] numbers = {{3, 4}, {4, 4}, {5, 4}, {0, 9}, {9, 0}};
        int[] plain = {6, 8, 8, 0, 0};
        for (int i = 0; i < numbers.length; i++) {
            Check.fill(x, 0, 0, numbers[i][0]);
            Check.fill(x, 0, 1, numbers[i][1]);
            Check.due("plainly", x.value(4, 0, 0), plain[i]);
            Check.due("the first always", x.value(4, 0, first), 2L * numbers[i][0]);
            Check.due("the second always", x.value(4, 0, second), 2L * numbers[i][1]);
        }
    }

    private static void middle(int low, int high, long due) {
        NearEnough x = sheeted("row r has 1 from " + low + " to " + high + ";sum s of r;", high);
        value(x, 0, Kind.LEFT, 0, due);
        Check.errorOf(x, 0, 1, due - high, due - low);
        Check.due("without any work", x.ticks(1), 0);
    }

    /** "LEFT: the middle of its SPAN ((least + greatest) / 2, rounded down) without any work." */
    private static void middlesRoundedDown() {
        middle(0, 3, 1);
        middle(0, 4, 2);
        middle(-3, 0, -2);
        middle(-4, 0, -2);
        middle(-4, 1, -2);
        middle(-1, 0, -1);
        middle(0, 1, 0);
        middle(-1, 1, 0);
        middle(7, 7, 7);
        middle(-7, -7, -7);
        middle(-999, 998, -1);
    }

    /** "SHORT: it stops behind the first n numbers, as if there were no more." */
    private static void shortRows() {
        NearEnough x = sheeted(SIX, -5, 1, -7, 20, 300, 600);
        int[] sums = {-5, -4, -11, 9, 309};
        int[] mosts = {-5, 1, 1, 20, 300};
        for (int n = 1; n <= 5; n++) {
            value(x, 0, Kind.SHORT, n, sums[n - 1]);
            value(x, 1, Kind.SHORT, n, mosts[n - 1]);
        }
        NearEnough y = sheeted("row r has 2 from -9 to 9;sum s of r;most m of r;", -6, -5);
        for (int n = 1; n <= 5; n++) {
            value(y, 0, Kind.SHORT, n, n == 1 ? -6 : -11);
            value(y, 1, Kind.SHORT, n, n == 1 ? -6 : -5);
        }
    }

    /** "OLD: it reads the ROW of the SHEET told ahead (of the first SHEET, and in WORST: its own)." */
    private static void oldRows() {
        // STEPS: 0 s, 1 m, 2 i, 3 a.
        NearEnough x = Check.told("row r has 2 from 0 to 9;row q has 1 from 0 to 9;sum s of r;most m of r;sum i of q;"
                + "at a r place i;end s off 0 never;end a off 0 never;");
        int sum = changed(x, 0, Kind.OLD, 0);
        int most = changed(x, 1, Kind.OLD, 0);
        int at = changed(x, 3, Kind.OLD, 0);
        for (int sheet = 0; sheet < 40; sheet++) {
            x.sheet(sheet % 3 == 0);
            Check.fill(x, sheet, 0, sheet % 10, sheet / 10);
            Check.fill(x, sheet, 1, sheet % 2);
        }
        int[] asked = {0, 1, 2, 10, 11, 38, 39};
        for (int sheet : asked) {
            int old = Math.max(0, sheet - 1);
            Check.due("OLD sum on " + sheet, x.value(0, sheet, sum), old % 10 + old / 10);
            Check.due("OLD most on " + sheet, x.value(1, sheet, most), Math.max(old % 10, old / 10));
            Check.due("the old ROW at the new place", x.value(3, sheet, at), sheet % 2 == 0 ? old % 10 : old / 10);
        }
        Check.due("in WORST its own", x.worst(0, sum, 0), 0);
        Check.due("in WORST its own", x.worst(1, at, 0), 0);
        Check.due("and no bits", x.worst(1, at, 1), 0);
        Check.due("the last SHEET is as it was", x.value(0, 39, 0), 12);
    }

    /** "At the place of a STEP (modulo how many it has, not below 0)." */
    private static void placesAndPicks() {
        for (int has = 1; has <= 6; has++) {
            NearEnough x = Check.told("row r has " + has + " from 0 to 9;row q has 1 from -99 to 99;sum i of q;at a r place i;");
            x.sheet(false);
            for (int place = 0; place < has; place++) {
                x.put(0, 0, place, place + 1);
            }
            int[] places = {0, 1, has - 1, has, has + 1, 2 * has, -1, -has, -has - 1, 99, -99};
            for (int place : places) {
                x.put(0, 1, 0, place);
                Check.due("at " + place + " of " + has, x.value(1, 0, 0), Math.floorMod(place, has) + 1);
            }
        }
        NearEnough second = Check.told("row r has 3 from 0 to 9;row q has 4 from 10 to 19;sum i of r;at a q place i;most m of q;"
                + "sum s of q;");
        second.sheet(false);
        second.sheet(false);
        Check.fill(second, 1, 1, 10, 13, 15, 18);
        int[] due = {10, 13, 15, 18, 10};
        for (int place = 0; place < due.length; place++) {
            Check.fill(second, 1, 0, place, 0, 0);
            Check.due("at " + place + " of ROW 1", second.value(1, 1, 0), due[place]);
        }
        Check.due("most of ROW 1", second.value(2, 1, 0), 18);
        Check.due("sum of ROW 1", second.value(3, 1, 0), 56);
        Check.due("at of the first SHEET", second.value(1, 0, 0), 10);
    }

    /** "Scale (cut towards 0)." */
    private static void scalesCutTowardsNone() {
        NearEnough x = Check.told("row r has 1 from -99 to 99;sum s of r;scale a s by 2 over 3;scale b s by -2 over 3;"
                + "scale c s by 99 over 1;scale d s by 1 over 99;");
        x.sheet(false);
        int[] numbers = {0, 1, 2, 3, -1, -2, -3, 98, 99, -98, -99};
        int[] twoThirds = {0, 0, 1, 2, 0, -1, -2, 65, 66, -65, -66};
        int[] over99 = {0, 0, 0, 0, 0, 0, 0, 0, 1, 0, -1};
        for (int i = 0; i < numbers.length; i++) {
            Check.fill(x, 0, 0, numbers[i]);
            Check.due("by 2 over 3", x.value(1, 0, 0), twoThirds[i]);
            Check.due("by -2 over 3", x.value(2, 0, 0), -twoThirds[i]);
            Check.due("by 99", x.value(3, 0, 0), 99L * numbers[i]);
            Check.due("over 99", x.value(4, 0, 0), over99[i]);
        }
    }

    /** "A CHOICE is a set of CHANGES (as bits), no two of one STEP." */
    private static void setsOfChanges() {
        StringBuilder text = new StringBuilder("row r has 1 from 0 to 9;");
        for (int i = 0; i < 12; i++) {
            text.append("sum s").append((char) ('a' + i)).append(" of r;");
        }
        NearEnough x = Check.told(text + "end sl off 9999 never;");
        for (int step = 0; step < 12; step++) {
            int many = 1 << step;
            Check.due("none", x.barred(0), NONE);
            Check.due("all that are", x.barred(many - 1), NONE);
            Check.due("one more", x.barred(many), -2);
            x.change(step, Kind.BITS, 1, 1);
        }
        Check.due("all 12", x.barred(4095), NONE);
        Check.due("all 12 save", x.saved(4095), 12);
        int[] wrong = {4096, 8192, -1, -4096, LOWEST, HIGHEST, 1 << 30};
        for (int choice : wrong) {
            Check.due("barred by " + choice, x.barred(choice), -2);
            Check.due("saved by " + choice, x.saved(choice), NONE);
            Check.due("ticks of " + choice, x.ticks(choice), NONE);
            Check.due("let of " + choice, x.let(choice), NONE);
            Check.due("off by " + choice, x.off(0, choice), NONE);
            Check.due("error by " + choice, x.error(0, choice, true), Check.NO_ERROR);
        }
        NearEnough y = Check.told(TWO + "most m of r;");
        y.change(0, Kind.BITS, 1, 1);
        y.change(1, Kind.BITS, 1, 2);
        y.change(0, Kind.BITS, 1, 4);
        int[] saved = {0, 1, 2, 3, 4, NONE, 6, NONE};
        for (int choice = 0; choice < 8; choice++) {
            Check.due("saved by " + choice, y.saved(choice), saved[choice]);
            Check.due("barred by " + choice, y.barred(choice), saved[choice] == NONE ? -2 : NONE);
        }
    }

    /** "What comes of a STEP on a SHEET by a CHOICE; NONE if one can't be (it may be that, too)." */
    private static void valuesThatCanNotBe() {
        NearEnough x = sheeted(TWO, 4, 5);
        x.change(0, Kind.BITS, 1, 0);
        int[] none = {-1, 1, 2, 12, 40, LOWEST, HIGHEST};
        for (int number : none) {
            Check.due("no STEP " + number, x.value(number, 0, 0), NONE);
            Check.due("no SHEET " + number, x.value(0, number, 0), NONE);
            Check.due("no error of STEP " + number, x.error(number, 0, false), Check.NO_ERROR);
            Check.due("no error of STEP " + number, x.error(number, 0, true), Check.NO_ERROR);
        }
        Check.due("no CHOICE 2", x.value(0, 0, 2), NONE);
        Check.due("no CHOICE -1", x.value(0, 0, -1), NONE);
        NearEnough y = sheeted("row r has 1 from -9 to 9;sum s of r;", -1);
        Check.due("it may be that, too", y.value(0, 0, 0), -1);
    }

    /** "SKIP: (m - t) * (x - y) less 1 .. (m - t) * (y - x) and 1." */
    private static void spansOfSkip() {
        int[][] missing = {{0, 0, 0, 0, 0}, {1, 1, 1, 1, 1}, {1, 2, 2, 2, 2}, {2, 2, 3, 3, 3}, {2, 3, 3, 4, 4}, {3, 4, 4, 4, 5}};
        for (int has = 1; has <= 6; has++) {
            NearEnough x = Check.told("row r has " + has + " from -4 to 9;sum s of r;");
            for (int n = 2; n <= 6; n++) {
                long far = missing[has - 1][n - 2] * 13L + 1;
                span(x, 0, Kind.SKIP, n, -far, far);
                Check.due("ticks", x.ticks(1 << n - 2), has - missing[has - 1][n - 2]);
            }
        }
    }

    /** "SHORT n, for a ROW of m numbers x .. y, more than n: sum .., most ..; OLD: sum .., most and at .." */
    private static void spansOfShortAndOld() {
        NearEnough x = Check.told("row r has 4 from -4 to 9;sum s of r;most m of r;sum k of r;at a r place k;");
        for (int n = 1; n <= 5; n++) {
            int missing = Math.max(0, 4 - n);
            span(x, 0, Kind.SHORT, n, -9L * missing, 4L * missing);
            span(x, 1, Kind.SHORT, n, missing > 0 ? -13 : 0, 0);
        }
        NearEnough y = Check.told("row r has 4 from -4 to 9;sum s of r;most m of r;sum k of r;at a r place k;");
        span(y, 0, Kind.OLD, 0, -52, 52);
        span(y, 1, Kind.OLD, 0, -13, 13);
        span(y, 3, Kind.OLD, 0, -13, 13);
        NearEnough above = Check.told("row r has 3 from 2 to 9;sum s of r;most m of r;end s off 0 never;");
        span(above, 0, Kind.SHORT, 1, -18, -4);
        span(above, 1, Kind.SHORT, 1, -7, 0);
        Check.due("-e is the greater", above.off(0, 1), 18);
        NearEnough below = Check.told("row r has 3 from -9 to -2;sum s of r;most m of r;end s off 0 never;");
        span(below, 0, Kind.SHORT, 1, 4, 18);
        span(below, 1, Kind.SHORT, 1, -7, 0);
        Check.due("f is the greater", below.off(0, 1), 18);
        NearEnough like = Check.told("row r has 3 from 5 to 5;sum s of r;most m of r;");
        span(like, 0, Kind.OLD, 0, 0, 0);
        span(like, 1, Kind.OLD, 0, 0, 0);
        span(like, 1, Kind.SHORT, 1, 0, 0);
        span(like, 0, Kind.SHORT, 2, -5, -5);
    }

    /** "BITS n: e is less by 2 to the power of n less 1. COARSE n: e is less by n - 1 .., by m * (n - 1) for sum." */
    private static void spansOfBitsAndCoarse() {
        int[] less = {1, 3, 7, 15, 31, 63, 127, 255, 511, 1023};
        NearEnough x = Check.told("row r has 4 from -4 to 9;sum s of r;most m of r;add t s m;");
        for (int n = 1; n <= 10; n++) {
            span(x, 0, Kind.BITS, n, -less[n - 1], 0);
        }
        changed(x, 1, Kind.SHORT, 1);
        changed(x, 2, Kind.BITS, 2);
        Check.errorOf(x, 2, 0b110000000000, -16, 0);
        NearEnough y = Check.told("row r has 4 from -4 to 9;sum s of r;most m of r;sum k of r;at a r place k;");
        span(y, 0, Kind.COARSE, 2, -4, 0);
        span(y, 0, Kind.COARSE, 99, -392, 0);
        span(y, 1, Kind.COARSE, 2, -1, 0);
        span(y, 1, Kind.COARSE, 99, -98, 0);
        span(y, 3, Kind.COARSE, 2, -1, 0);
        span(y, 3, Kind.COARSE, 99, -98, 0);
        NearEnough above = Check.told("row r has 4 from -4 to 9;sum s of r;less z s s;less b z s;");
        int choice = changed(above, 0, Kind.BITS, 3) | changed(above, 2, Kind.BITS, 1);
        Check.errorOf(above, 1, choice, -7, 7);
        Check.errorOf(above, 2, choice, -8, 14);
    }

    /** "Add: both together. Less: e less the other's f, f less the other's e." */
    private static void spansOfAddAndLess() {
        // By SHORT s errs by -18 .. 8, t by -3 .. 6; STEPS: 0 s, 1 t, 2 b, 3 c, 4 d, 5 f.
        NearEnough x = Check.told("row r has 3 from -4 to 9;row q has 4 from -2 to 1;sum s of r;sum t of q;add b s t;"
                + "less c s t;less d t s;add f t t;");
        int s = changed(x, 0, Kind.SHORT, 1);
        int t = changed(x, 1, Kind.SHORT, 1);
        Check.errorOf(x, 2, s, -18, 8);
        Check.errorOf(x, 2, t, -3, 6);
        Check.errorOf(x, 2, s | t, -21, 14);
        Check.errorOf(x, 3, s, -18, 8);
        Check.errorOf(x, 3, t, -6, 3);
        Check.errorOf(x, 3, s | t, -24, 11);
        Check.errorOf(x, 4, s | t, -11, 24);
        Check.errorOf(x, 5, t, -6, 12);
    }

    /** "Scale: 0 .. 0 if nothing errs, else .. rounded down, less 1, and rounded up, more 1." */
    private static void spansOfScales() {
        // STEPS: 0 s errs by -7 .. 0, 1 z by -1 .. 1, so that 8 n errs by -1 .. 8.
        NearEnough x = Check.told("row r has 1 from 0 to 99;sum s of r;scale z s by 0 over 1;scale a s by 1 over 2;"
                + "scale b s by 1 over 7;scale c s by -1 over 2;scale d s by -1 over 7;scale e s by 99 over 1;"
                + "scale f s by 2 over 3;less n z s;scale g n by 1 over 2;scale h n by -1 over 2;scale i n by 1 over 99;");
        int choice = changed(x, 0, Kind.BITS, 3);
        for (int step = 0; step < 12; step++) {
            Check.errorOf(x, step, 0, 0, 0);
        }
        Check.errorOf(x, 0, choice, -7, 0);
        Check.errorOf(x, 1, choice, -1, 1);
        Check.errorOf(x, 2, choice, -5, 1);
        Check.errorOf(x, 3, choice, -2, 1);
        Check.errorOf(x, 4, choice, -1, 5);
        Check.errorOf(x, 5, choice, -1, 2);
        Check.errorOf(x, 6, choice, -694, 1);
        Check.errorOf(x, 7, choice, -6, 1);
        Check.errorOf(x, 8, choice, -1, 8);
        Check.errorOf(x, 9, choice, -2, 5);
        Check.errorOf(x, 10, choice, -5, 2);
        Check.errorOf(x, 11, choice, -2, 2);
    }

    private static void product(int p, int q, int u, int v, long low, long high) {
        // Both ROWS have two numbers, so that a sum of one number only errs by the least or the greatest of the other one.
        NearEnough x = Check.told("row p has 2 from " + p + " to " + q + ";row q has 2 from " + u + " to " + v
                + ";sum s of p;sum t of q;times w s t;");
        int choice = changed(x, 0, Kind.SHORT, 1) | changed(x, 1, Kind.SHORT, 1);
        Check.errorOf(x, 0, choice, -q, -p);
        Check.errorOf(x, 1, choice, -v, -u);
        Check.errorOf(x, 2, choice, low, high);
    }

    /** "Times: the three products p * v, q * u, u * v (each by all four pairs of ends) together." */
    private static void spansOfTimes() {
        // SPANS 4 .. 6 and 10 .. 14, ERRORS -3 .. -2 and -7 .. -5: -42 - 42 + 10 and -20 - 20 + 21.
        product(2, 3, 5, 7, -74, -19);
        // SPANS -6 .. -4 and 10 .. 14, ERRORS 2 .. 3 and -7 .. -5: 20 + 20 - 21 and 42 + 42 - 10.
        product(-3, -2, 5, 7, 19, 74);
        product(2, 3, -7, -5, 19, 74);
        product(-3, -2, -7, -5, -74, -19);
        // SPANS -4 .. 6 and -10 .. 14, ERRORS -3 .. 2 and -7 .. 5.
        product(-2, 3, -5, 7, -42 - 42 - 15, 30 + 30 + 21);
        NearEnough x = Check.told("row p has 2 from -2 to 3;row q has 2 from -5 to 7;sum s of p;sum t of q;times w s t;times v s s;");
        int one = changed(x, 0, Kind.SHORT, 1);
        int other = changed(x, 1, Kind.SHORT, 1);
        Check.errorOf(x, 2, one, -42, 30);
        Check.errorOf(x, 2, other, -42, 30);
        Check.errorOf(x, 2, 0, 0, 0);
        Check.errorOf(x, 3, one, -18 - 18 - 6, 12 + 12 + 9);
    }

    /** "Pick: the lesser e, the greater f of both; where one of the two that are held against each other errs, of these, too." */
    private static void spansOfPicks() {
        // STEPS: 0 s of 0 .. 10, 1 m of 0 .. 5, 2 t of -6 .. 16, 3 p, 4 g, 5 u, 6 v.
        NearEnough x = Check.told("row r has 2 from 0 to 5;row q has 2 from -3 to 8;sum s of r;most m of r;sum t of q;"
                + "pick p s t if m under m;pick g t s if m under m;pick u s t if m under s;pick v s t if s under m;");
        int s = changed(x, 0, Kind.BITS, 1);
        int m = changed(x, 1, Kind.BITS, 1);
        int t = changed(x, 2, Kind.SHORT, 1);
        Check.errorOf(x, 3, s, -1, 0);
        Check.errorOf(x, 3, t, -8, 3);
        Check.errorOf(x, 4, t, -8, 3);
        Check.errorOf(x, 3, s | t, -8, 3);
        Check.errorOf(x, 3, m, -16, 16);
        Check.errorOf(x, 3, m | s, -17, 16);
        Check.errorOf(x, 3, m | t, -24, 19);
        Check.errorOf(x, 4, m, -16, 16);
        Check.errorOf(x, 5, t, -8, 3);
        Check.errorOf(x, 5, s, -17, 16);
        Check.errorOf(x, 6, s, -17, 16);
        Check.errorOf(x, 5, m, -16, 16);
        Check.errorOf(x, 6, m, -16, 16);
        NearEnough apart = Check.told("row r has 2 from 0 to 5;row q has 1 from 20 to 30;sum s of r;most m of r;sum t of q;"
                + "pick p s t if m under m;pick g t s if m under m;");
        int errs = changed(apart, 1, Kind.SHORT, 1);
        Check.errorOf(apart, 3, errs, -30, 30);
        Check.errorOf(apart, 4, errs, -30, 30);
    }

    /** "USUAL: the lesser e, the greater f of a's span and of a's SPAN less b's and a's span added." */
    private static void spansOfUsual() {
        // STEPS: 0 s of 0 .. 10, 1 t of 20 .. 30, 2 p; a SPAN less the other one: -30 .. -10 or 10 .. 30.
        NearEnough x = Check.told("row r has 2 from 0 to 5;row q has 1 from 20 to 30;sum s of r;sum t of q;pick p s t if s under t;");
        int first = changed(x, 2, Kind.USUAL, 0);
        int second = changed(x, 2, Kind.USUAL, 1);
        int s = changed(x, 0, Kind.BITS, 2);
        int t = changed(x, 1, Kind.BITS, 3);
        Check.errorOf(x, 2, first, -30, 0);
        Check.errorOf(x, 2, second, 0, 30);
        Check.errorOf(x, 2, first | s, -33, 0);
        Check.errorOf(x, 2, first | t, -30, 0);
        Check.errorOf(x, 2, second | s, 0, 30);
        Check.errorOf(x, 2, second | t, -7, 30);
        NearEnough like = Check.told("row r has 1 from 4 to 4;sum s of r;sum t of r;pick p s t if s under t;");
        Check.errorOf(like, 2, changed(like, 2, Kind.USUAL, 0), 0, 0);
        Check.errorOf(like, 2, changed(like, 2, Kind.USUAL, 1), 0, 0);
    }

    /** "LEFT: the middle less the greatest .. the middle less the least, whatever errs ahead (an at is not BARRED then)." */
    private static void spansOfLeft() {
        NearEnough x = Check.told("row r has 3 from -4 to 9;sum s of r;times t s s;at a r place s;pick p s t if s under a;");
        int s = changed(x, 0, Kind.OLD, 0);
        int t = changed(x, 1, Kind.LEFT, 0);
        int a = changed(x, 2, Kind.LEFT, 0);
        int p = changed(x, 3, Kind.LEFT, 0);
        // SPANS: s -12 .. 27, t -324 .. 729, a -4 .. 9, p the widest of s and t.
        Check.errorOf(x, 1, t, -527, 526);
        Check.errorOf(x, 1, s | t | a, -527, 526);
        Check.errorOf(x, 2, a, -7, 6);
        Check.errorOf(x, 2, s | a, -7, 6);
        Check.errorOf(x, 3, p, -527, 526);
        Check.errorOf(x, 3, s | a | p, -527, 526);
        Check.due("BARRED without it", x.barred(s | t | p), 2);
    }

    /** "At: 0 .. 0; BARRED, if its place errs." */
    private static void barredByAPlace() {
        NearEnough x = Check.told(PLACED);
        int[] kinds = {Kind.SKIP, Kind.BITS, Kind.COARSE, Kind.LEFT, Kind.SHORT, Kind.OLD};
        int[] numbers = {2, 1, 2, 0, 2, 0};
        for (int i = 0; i < kinds.length; i++) {
            Check.due("BARRED by " + kinds[i], x.barred(changed(x, 0, kinds[i], numbers[i])), 1);
        }
        Check.due("where nothing errs", x.barred(changed(x, 0, Kind.SHORT, 3)), NONE);
        Check.due("what errs elsewhere is no matter", x.barred(changed(x, 2, Kind.LEFT, 0)), NONE);
        int[] own = {Kind.BITS, Kind.COARSE, Kind.OLD};
        int[] ownNumbers = {10, 99, 0};
        for (int i = 0; i < own.length; i++) {
            int choice = changed(x, 1, own[i], ownNumbers[i]);
            Check.due("its own CHANGE does not bar", x.barred(choice), NONE);
            Check.due("nor unbar", x.barred(choice | 2), 1);
        }
        int left = changed(x, 1, Kind.LEFT, 0);
        for (int i = 0; i < 6; i++) {
            Check.due("LEFT does", x.barred(left | 1 << i), NONE);
            Check.errorOf(x, 1, left | 1 << i, -5, 4);
        }
        NearEnough up = Check.told("row r has 2 from -5 to 0;sum s of r;at a r place s;");
        Check.due("0 .. 5 errs, too", up.barred(changed(up, 0, Kind.SHORT, 1)), 1);
        NearEnough same = Check.told("row r has 2 from 5 to 5;sum s of r;at a r place s;");
        Check.due("0 .. 0 does not", same.barred(changed(same, 0, Kind.LEFT, 0)), NONE);
        Check.due("-5 .. -5 does", same.barred(changed(same, 0, Kind.SHORT, 1)), 1);
    }

    /** "And by a STEP whose span goes beyond 1000000000, either way." */
    private static void barredBeyondTheFarthest() {
        // STEPS: 0 a, 1 b, 2 c, 3 d of 0 .. 1000000000, 4 z of 0 .. 0, 5 o of 0 .. 1, 6 v of -1 .. 0, 7 p, 8 q, 9 w.
        NearEnough x = Check.told("row r has 1 from 0 to 100;sum a of r;times b a a;times c b b;scale d c by 10 over 1;"
                + "scale z a by 0 over 1;scale o a by 1 over 99;scale v a by -1 over 99;pick p d z if z under z;"
                + "less q p o;add w p v;");
        int below = changed(x, 7, Kind.USUAL, 1);
        int above = changed(x, 7, Kind.USUAL, 0);
        int o = changed(x, 5, Kind.LEFT, 0);
        int v = changed(x, 6, Kind.LEFT, 0);
        Check.errorOf(x, 7, below, -1000000000, 0);
        Check.errorOf(x, 7, above, 0, 1000000000);
        Check.errorOf(x, 8, below | o, -1000000000, 1);
        Check.errorOf(x, 9, above | v, -1, 1000000000);
        Check.due("just not beyond below", x.barred(below | o), NONE);
        Check.due("just beyond below", x.barred(below | v), 9);
        Check.due("just not beyond above", x.barred(above | v), NONE);
        Check.due("just beyond above", x.barred(above | o), 8);
    }

    /** "The first STEP by which a CHOICE is BARRED; NONE if it is not, -2 if it can't be." */
    private static void barredByTheFirstOfAll() {
        // STEPS: 0 s, 1 t, 2 a, 3 b; both have a place of their own.
        NearEnough x = Check.told("row r has 2 from 0 to 9;sum s of r;sum t of r;at a r place t;at b r place s;");
        int s = changed(x, 0, Kind.BITS, 1);
        int t = changed(x, 1, Kind.BITS, 1);
        int a = changed(x, 2, Kind.LEFT, 0);
        int b = changed(x, 3, Kind.LEFT, 0);
        Check.due("the last bars", x.barred(s), 3);
        Check.due("the one ahead", x.barred(t), 2);
        Check.due("the first of both", x.barred(s | t), 2);
        Check.due("the first is LEFT", x.barred(s | t | a), 3);
        Check.due("the second is LEFT", x.barred(s | t | b), 2);
        Check.due("both are", x.barred(s | t | a | b), NONE);
        Check.due("no such CHOICE", x.barred(16), -2);
        String wide = "row r has 1 from -999 to 999;most m of r;times b m m;times c b m;at d r place m;";
        NearEnough y = Check.told(wide);
        Check.due("its span is beyond ahead of the place", y.barred(changed(y, 0, Kind.OLD, 0)), 2);
        NearEnough z = Check.told("row r has 1 from -999 to 999;most m of r;at d r place m;times b m m;times c b m;");
        Check.due("the place is ahead", z.barred(changed(z, 0, Kind.OLD, 0)), 1);
        NearEnough first = Check.told("row r has 1 from 0 to 9;sum s of r;");
        Check.due("no STEP bars", first.barred(changed(first, 0, Kind.BITS, 10)), NONE);
    }

    /** What each call answers by a CHOICE that is BARRED, by one that can't be, and for no END. */
    private static void barredAnswers() {
        NearEnough x = sheeted(PLACED + "end t off 5 one;end s off 5 never;", 1, 2, 3);
        x.change(0, Kind.BITS, 1, 8);
        x.change(0, Kind.BITS, 2, 4);
        int[] choices = {1, 3, 4, -1};
        for (int choice : choices) {
            Check.due("value", x.value(2, 0, choice), NONE);
            Check.due("e, ahead of what bars", x.error(0, choice, false), Check.NO_ERROR);
            Check.due("f, behind what bars", x.error(2, choice, true), Check.NO_ERROR);
            Check.due("off", x.off(0, choice), NONE);
            Check.due("measured", x.measured(0, choice), NONE);
            Check.due("passed", x.passed(0, choice), NONE);
            Check.due("mean, upper", x.mean(0, choice, 0), NONE);
            Check.due("mean, lower", x.mean(0, choice, 1), NONE);
            Check.due("let", x.let(choice), choice == 1 ? 0 : NONE);
            Check.due("saved", x.saved(choice), choice == 1 ? 8 : NONE);
            Check.due("ticks", x.ticks(choice), choice == 1 ? 7 : NONE);
        }
        int[] ends = {2, -1, 4, LOWEST, HIGHEST};
        for (int end : ends) {
            Check.due("off of END " + end, x.off(end, 0), NONE);
            Check.due("measured of END " + end, x.measured(end, 0), NONE);
            Check.due("passed of END " + end, x.passed(end, 0), NONE);
            Check.due("mean of END " + end, x.mean(end, 0, 1), NONE);
        }
        Check.due("off of the last END", x.off(1, 0), 0);
    }

    /** "OFF of an END: the greater of -e and f." */
    private static void theGreaterIsOff() {
        NearEnough x = Check.told("row r has 3 from -4 to 9;sum s of r;less n s s;end s off 0 never;end n off 0 mean;");
        Check.due("none", x.off(0, 0), 0);
        Check.due("-e", x.off(0, changed(x, 0, Kind.SHORT, 2)), 9);
        Check.due("both are like", x.off(1, 1), 13);
        Check.due("by SKIP", x.off(0, changed(x, 0, Kind.SKIP, 2)), 14);
        NearEnough y = Check.told("row r has 3 from -9 to 4;sum s of r;end s off 0 never;");
        Check.due("f", y.off(0, changed(y, 0, Kind.SHORT, 2)), 9);
    }

    private static NearEnough measurable(boolean... kept) {
        NearEnough x = Check.told(TWO + "end s off 2 one;");
        changed(x, 0, Kind.SHORT, 1);
        for (boolean one : kept) {
            x.sheet(one);
        }
        return x;
    }

    /** "MEASURED: the greatest ERROR without sign over SHEETS that are not kept back; PASSED: how many kept back ones have a greater one." */
    private static void measuredAndPassed() {
        NearEnough none = measurable();
        Check.due("measured on no SHEETS", none.measured(0, 1), 0);
        Check.due("passed on no SHEETS", none.passed(0, 1), 0);
        NearEnough kept = measurable(true, true);
        kept.put(0, 0, 1, 5);
        Check.due("measured, all are kept back", kept.measured(0, 1), 0);
        Check.due("one of them passes", kept.passed(0, 1), 1);
        NearEnough open = measurable(false, false);
        open.put(1, 0, 1, 9);
        Check.due("measured, none is kept back", open.measured(0, 1), 9);
        Check.due("none passes", open.passed(0, 1), 0);
        NearEnough both = measurable(false, true, true, false, true);
        both.put(0, 0, 1, 4);
        both.put(1, 0, 1, 4);
        both.put(2, 0, 1, 5);
        both.put(3, 0, 1, 3);
        both.put(4, 0, 1, 9);
        Check.due("measured", both.measured(0, 1), 4);
        Check.due("a like one does not pass, greater ones do", both.passed(0, 1), 2);
        NearEnough signs = Check.told("row r has 2 from -9 to 9;sum s of r;end s off 0 one;");
        changed(signs, 0, Kind.SHORT, 1);
        signs.sheet(false);
        signs.sheet(false);
        signs.sheet(true);
        Check.fill(signs, 0, 0, 0, -3);
        Check.fill(signs, 1, 0, 0, 2);
        Check.fill(signs, 2, 0, 0, 4);
        Check.due("without sign", signs.measured(0, 1), 3);
        Check.due("without sign", signs.passed(0, 1), 1);
        signs.put(0, 0, 1, 7);
        Check.due("-7 counts as 7", signs.measured(0, 1), 7);
        signs.put(2, 0, 1, -8);
        Check.due("8 is greater", signs.passed(0, 1), 1);
    }

    /** "MEAN: ERRORS without sign over all SHEETS together by how many SHEETS, as a fraction in lowest terms." */
    private static void meansInLowestTerms() {
        NearEnough x = Check.told("row r has 2 from -9 to 9;sum s of r;end s off 0 one;");
        changed(x, 0, Kind.SHORT, 1);
        mean(x, 1, NONE, NONE);
        mean(x, 0, NONE, NONE);
        x.sheet(true);
        x.put(0, 0, 1, 0);
        mean(x, 1, 0, 1);
        x.put(0, 0, 1, -7);
        mean(x, 1, 7, 1);
        x.sheet(false);
        x.put(1, 0, 1, 3);
        mean(x, 1, 5, 1);
        x.put(1, 0, 1, 4);
        mean(x, 1, 11, 2);
        x.sheet(false);
        x.put(2, 0, 1, 1);
        mean(x, 1, 4, 1);
        mean(x, 0, 0, 1);
        for (int sheet = 3; sheet < 40; sheet++) {
            x.sheet(true);
            x.put(sheet, 0, 1, 0);
        }
        mean(x, 1, 3, 10);
        x.put(39, 0, 1, 1);
        mean(x, 1, 13, 40);
        int[] parts = {-1, 2, LOWEST, HIGHEST};
        for (int part : parts) {
            Check.due("part " + part, x.mean(0, 1, part), NONE);
        }
    }

    private static void mean(NearEnough x, int choice, long upper, long lower) {
        Check.due("upper part", x.mean(0, choice, 0), upper);
        Check.due("lower part", x.mean(0, choice, 1), lower);
    }

    /** "What a CHOICE saves": up to 12 CHANGES of 999. */
    private static void savedByAll() {
        StringBuilder text = new StringBuilder("row r has 6 from 0 to 9;");
        for (int i = 0; i < 12; i++) {
            text.append("sum s").append((char) ('a' + i)).append(" of r;");
        }
        NearEnough x = Check.told(text.toString());
        Check.due("ticks of 12 sums of 6", x.ticks(0), 72);
        for (int step = 0; step < 12; step++) {
            x.change(step, Kind.LEFT, 0, 999);
        }
        Check.due("saved by none", x.saved(0), 0);
        Check.due("saved by all", x.saved(4095), 11988);
        Check.due("ticks of none", x.ticks(4095), 0);
        Check.due("best", x.best(), 4095);
    }

    /** "TICKS: for each STEP 1, but for sum and most how many numbers they take; 0 for one that is LEFT." */
    private static void ticksOfAll() {
        NearEnough x = Check.told("row r has 5 from 0 to 9;sum s of r;most m of r;at a r place m;add b s m;less c s m;"
                + "times d s m;scale e s by 1 over 2;pick f s m if s under m;");
        Check.due("plainly", x.ticks(0), 16);
        ticks(x, 0, Kind.SKIP, 2, 14);
        ticks(x, 0, Kind.SKIP, 5, 12);
        ticks(x, 0, Kind.SHORT, 4, 15);
        ticks(x, 0, Kind.SHORT, 5, 16);
        ticks(x, 1, Kind.SHORT, 1, 12);
        ticks(x, 1, Kind.LEFT, 0, 11);
        ticks(x, 2, Kind.LEFT, 0, 15);
        ticks(x, 7, Kind.LEFT, 0, 15);
        ticks(x, 0, Kind.COARSE, 99, 16);
        ticks(x, 0, Kind.OLD, 0, 16);
        ticks(x, 7, Kind.USUAL, 1, 16);
        ticks(x, 2, Kind.OLD, 0, 16);
    }

    private static void ticks(NearEnough x, int step, int kind, int n, int due) {
        Check.due("ticks by " + kind + " with " + n + " of STEP " + step, x.ticks(changed(x, step, kind, n)), due);
    }

    /** "Never: OFF is no more than off." */
    private static void letNever() {
        NearEnough x = Check.told(TWO + "end s off 7 never;");
        Check.due("7 is no more than 7", x.let(changed(x, 0, Kind.BITS, 3)), 1);
        Check.due("9 is more", x.let(changed(x, 0, Kind.SHORT, 1)), 0);
        Check.due("8 is more", x.let(changed(x, 0, Kind.COARSE, 5)), 0);
        Check.due("none", x.let(0), 1);
        NearEnough y = Check.told(TWO + "end s off 0 never;");
        Check.due("0 is no more than 0", y.let(changed(y, 0, Kind.SHORT, 2)), 1);
        Check.due("1 is more than 0", y.let(changed(y, 0, Kind.BITS, 1)), 0);
        NearEnough z = Check.told("row r has 6 from -999 to 999;sum s of r;scale t s by 5 over 3;end t off 9999 never;");
        Check.due("9991 is no more than 9999", z.let(changed(z, 0, Kind.LEFT, 0)), 1);
        Check.due("19981 is more", z.let(changed(z, 0, Kind.OLD, 0)), 0);
    }

    /** "Mean: its ERRORS without sign over all SHEETS are no more than off * SHEETS together." */
    private static void letMean() {
        NearEnough x = Check.told("row r has 2 from -9 to 9;sum s of r;end s off 3 mean;");
        changed(x, 0, Kind.SHORT, 1);
        Check.due("without SHEETS", x.let(1), 1);
        x.sheet(true);
        x.put(0, 0, 1, 3);
        Check.due("3 of 3", x.let(1), 1);
        x.put(0, 0, 1, 4);
        Check.due("4 of 3", x.let(1), 0);
        x.put(0, 0, 1, -4);
        Check.due("without sign", x.let(1), 0);
        x.sheet(false);
        x.put(1, 0, 1, 2);
        Check.due("4 and 2 of 6", x.let(1), 1);
        x.put(1, 0, 1, 3);
        Check.due("4 and 3 of 6", x.let(1), 0);
        NearEnough y = Check.told("row r has 2 from 0 to 9;sum s of r;end s off 0 mean;");
        changed(y, 0, Kind.SHORT, 1);
        y.sheet(false);
        Check.due("0 of 0", y.let(1), 1);
        y.put(0, 0, 1, 1);
        Check.due("1 of 0", y.let(1), 0);
    }

    /** "One: those SHEETS in which it is more than off, * 100, are no more than SHEETS." */
    private static void letOne() {
        NearEnough x = Check.told("row r has 2 from -9 to 9;sum s of r;end s off 3 one;");
        changed(x, 0, Kind.SHORT, 1);
        Check.due("without SHEETS", x.let(1), 1);
        for (int sheet = 0; sheet < 40; sheet++) {
            x.sheet(sheet % 2 == 0);
            x.put(sheet, 0, 1, sheet % 2 == 0 ? 3 : -3);
        }
        Check.due("3 is not more than 3", x.let(1), 1);
        int[] asked = {0, 1, 39};
        for (int sheet : asked) {
            x.put(sheet, 0, 1, 4);
            Check.due("100 are more than 40", x.let(1), 0);
            x.put(sheet, 0, 1, -4);
            Check.due("without sign", x.let(1), 0);
            x.put(sheet, 0, 1, 0);
        }
        Check.due("none again", x.let(1), 1);
    }

    /** "A CHOICE is LET, if it is not BARRED, and of each END: .." */
    private static void letOfAllEnds() {
        NearEnough none = Check.told(PLACED);
        Check.due("no END asks", none.let(changed(none, 2, Kind.LEFT, 0)), 1);
        Check.due("BARRED", none.let(changed(none, 0, Kind.LEFT, 0)), 0);
        String text = "row r has 2 from 0 to 9;sum a of r;sum b of r;sum c of r;sum d of r;"
                + "end a off 7 never;end b off 3 mean;end c off 4 one;end d off 0 never;";
        NearEnough x = sheeted(text, 0, 8);
        int a = changed(x, 0, Kind.BITS, 3);
        int b = changed(x, 1, Kind.COARSE, 3);
        int c = changed(x, 2, Kind.COARSE, 5);
        int d = changed(x, 3, Kind.COARSE, 2);
        // The ERRORS are 0, -2, -3 and 0; OFF of d is 2.
        Check.due("the first END", x.let(a), 1);
        Check.due("three ENDS", x.let(a | b | c), 1);
        Check.due("the last END does not let", x.let(a | b | c | d), 0);
        x.put(0, 0, 0, 2);
        Check.due("b errs by -4", x.let(b), 0);
        Check.due("and of more", x.let(a | b), 0);
        Check.due("c errs by -5", x.let(c), 0);
        Check.due("a has its OFF", x.let(a), 1);
    }
}
