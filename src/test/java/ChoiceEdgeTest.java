/** Each sentence on BEST, FRONT, GUARDS, WORST, LED, THE PURSE and PLAN that names a bound: promises 20 to 32. */
public final class ChoiceEdgeTest {
    private static final int NONE = NearEnough.NONE;
    private static final int LOWEST = Integer.MIN_VALUE;
    private static final int HIGHEST = Integer.MAX_VALUE;
    private static final String TWO = "row r has 2 from 0 to 9;sum s of r;most m of r;";
    // STEPS: 0 s, 1 a (its place is s), 2 t.
    private static final String PLACED = "row r has 3 from 0 to 9;sum s of r;at a r place s;sum t of r;";

    private ChoiceEdgeTest() {
    }

    public static void main(String[] args) {
        bestWithoutAny();
        bestOfThoseThatAreLet();
        bestOfLikeOnes();
        bestOfTwelve();
        frontOfOnePair();
        frontOfLikePairs();
        frontWithoutTheBarred();
        frontOfMany();
        frontOfNoEnd();
        fourGuards();
        guardsThatTurnBack();
        guardsAtTheirBounds();
        throughMoreThanOff();
        guardsAreNoMatterElsewhere();
        endsAreNumberedAsTold();
        worstOfLikeOnes();
        worstOfTwelvePlaces();
        worstOfNone();
        ledToEachChange();
        ledToNone();
        ledThroughTheBarred();
        purseOfSoMuch();
        daysUpToWhatIsLeft();
        daysThatCanNotBe();
        planForSoMuch();
        planOfFortySheets();
        planOfLikeOnes();
        planWithoutSheets();
        planThatCanNotBe();
        aboutAll();
        aboutTheFullest();
        Check.finish();
    }

    /** A new CHANGE that must be; the CHOICE of it alone. */
    private static int changed(NearEnough x, int step, int kind, int n, int saves) {
        int number = x.change(step, kind, n, saves);
        Check.due("CHANGE " + kind + " with " + n + " of STEP " + step, number, x.about(4) - 1);
        return 1 << number;
    }

    /** "BEST (the CHOICE 0 is LET always)." */
    private static void bestWithoutAny() {
        NearEnough x = Check.told(TWO + "end s off 0 never;end m off 0 mean;");
        Check.due("no CHANGES", x.best(), 0);
        Check.due("0 is LET", x.let(0), 1);
        changed(x, 0, Kind.BITS, 1, 999);
        Check.due("the one CHANGE is not LET", x.best(), 0);
        x.sheet(false);
        Check.due("0 is LET on SHEETS", x.let(0), 1);
        NearEnough barred = Check.told(PLACED);
        changed(barred, 0, Kind.BITS, 1, 999);
        Check.due("the one CHANGE is BARRED", barred.best(), 0);
        NearEnough nothing = Check.told(TWO);
        changed(nothing, 0, Kind.BITS, 1, 0);
        changed(nothing, 1, Kind.BITS, 1, 0);
        Check.due("what saves nothing is more CHANGES than none", nothing.best(), 0);
    }

    /** "BEST: the CHOICE that is LET and saves most (saves of all together)." */
    private static void bestOfThoseThatAreLet() {
        NearEnough x = Check.told(TWO + "add t s m;end t off 10 never;");
        int sumBits = changed(x, 0, Kind.BITS, 3, 10);
        int mostBits = changed(x, 1, Kind.BITS, 2, 5);
        Check.due("7 and 3 are no more than 10", x.best(), sumBits | mostBits);
        int more = changed(x, 1, Kind.COARSE, 5, 6);
        Check.due("7 and 4 are more", x.best(), sumBits | mostBits);
        int alone = changed(x, 0, Kind.SHORT, 1, 15);
        Check.due("9 and nothing else saves as much with fewer", x.best(), alone);
        changed(x, 1, Kind.BITS, 1, 0);
        Check.due("9 and 1 save no more", x.best(), alone);
        int small = changed(x, 1, Kind.COARSE, 2, 1);
        Check.due("9 and 1 save one more", x.best(), alone | small);
        Check.due("what saves most is not LET", x.let(alone | more), 0);
    }

    /** "Of like ones the fewest CHANGES, then the least number." */
    private static void bestOfLikeOnes() {
        NearEnough x = Check.told("row r has 2 from 0 to 9;sum a of r;sum b of r;sum c of r;");
        changed(x, 2, Kind.BITS, 1, 3);
        changed(x, 1, Kind.BITS, 1, 3);
        changed(x, 0, Kind.BITS, 1, 3);
        changed(x, 0, Kind.BITS, 2, 3);
        changed(x, 1, Kind.BITS, 2, 3);
        changed(x, 2, Kind.BITS, 2, 3);
        Check.due("the least number of eight like ones", x.best(), 0b000111);
        NearEnough y = Check.told("row r has 2 from 0 to 9;sum a of r;sum b of r;sum c of r;");
        changed(y, 0, Kind.BITS, 1, 1);
        changed(y, 1, Kind.BITS, 1, 2);
        changed(y, 2, Kind.BITS, 1, 0);
        changed(y, 1, Kind.BITS, 2, 2);
        Check.due("fewer CHANGES go ahead of the least number", y.best(), 0b0011);
        NearEnough few = Check.told(TWO + "add t s m;end t off 7 never;");
        changed(few, 0, Kind.BITS, 1, 2);
        changed(few, 1, Kind.BITS, 1, 2);
        changed(few, 2, Kind.BITS, 3, 4);
        Check.due("one of number 4 goes ahead of two of number 3", few.best(), 4);
    }

    private static NearEnough twelveSums() {
        StringBuilder text = new StringBuilder("row r has 1 from 0 to 9;");
        for (int i = 0; i < 12; i++) {
            text.append("sum s").append((char) ('a' + i)).append(" of r;");
        }
        return Check.told(text + "end sa off 0 never;end sl off 1 never;");
    }

    private static void bestOfTwelve() {
        NearEnough x = twelveSums();
        for (int step = 0; step < 12; step++) {
            changed(x, step, Kind.BITS, 1, step == 5 ? 0 : 1);
        }
        Check.due("all but the first, which is not LET, and the one that saves nothing", x.best(), 0b111111011110);
        NearEnough one = Check.told(TWO + "end s off 100 never;");
        for (int change = 0; change < 12; change++) {
            changed(one, 0, Kind.BITS, 1 + change % 10, change == 4 || change == 7 ? 999 : 998);
        }
        Check.due("one of one STEP, the least of like ones", one.best(), 1 << 4);
        for (int change = 0; change < 12; change++) {
            one.let(1 << change);
            Check.due("whatever was asked ahead", one.best(), 1 << 4);
        }
    }

    private static void pair(NearEnough x, int end, int i, long off, long saved) {
        Check.due("OFF of pair " + i, x.pair(end, i, 0), off);
        Check.due("saved of pair " + i, x.pair(end, i, 1), saved);
    }

    private static void noPair(NearEnough x, int end, int i) {
        pair(x, end, i, NONE, NONE);
    }

    /** "FRONT of an END: pairs of OFF and saved": at least the one of the CHOICE 0, or what goes ahead of it. */
    private static void frontOfOnePair() {
        NearEnough x = Check.told(TWO + "end s off 0 never;end m off 0 never;");
        Check.due("no CHANGES", x.front(0), 1);
        pair(x, 0, 0, 0, 0);
        noPair(x, 0, 1);
        changed(x, 0, Kind.BITS, 1, 0);
        Check.due("one that errs and saves nothing", x.front(0), 1);
        pair(x, 0, 0, 0, 0);
        changed(x, 0, Kind.SHORT, 5, 7);
        Check.due("one that errs not and saves", x.front(0), 1);
        pair(x, 0, 0, 0, 7);
        Check.due("of the other END", x.front(1), 1);
        pair(x, 1, 0, 0, 7);
    }

    /** "So that none has no greater OFF and saves no less, and is another pair: by rising OFF." */
    private static void frontOfLikePairs() {
        NearEnough x = Check.told(TWO + "end s off 0 never;end m off 0 never;");
        changed(x, 0, Kind.BITS, 3, 20);
        changed(x, 0, Kind.BITS, 3, 20);
        changed(x, 0, Kind.BITS, 2, 10);
        Check.due("like pairs count once", x.front(0), 3);
        pair(x, 0, 0, 0, 0);
        pair(x, 0, 1, 3, 10);
        pair(x, 0, 2, 7, 20);
        noPair(x, 0, 3);
        changed(x, 0, Kind.BITS, 2, 11);
        Check.due("of like OFF the one that saves more", x.front(0), 3);
        pair(x, 0, 1, 3, 11);
        changed(x, 0, Kind.BITS, 2, 5);
        changed(x, 0, Kind.BITS, 3, 1);
        Check.due("not the one that saves less", x.front(0), 3);
        pair(x, 0, 1, 3, 11);
        pair(x, 0, 2, 7, 20);
        changed(x, 0, Kind.COARSE, 4, 20);
        Check.due("of like saves the one that is less off", x.front(0), 3);
        pair(x, 0, 1, 3, 11);
        pair(x, 0, 2, 6, 20);
        changed(x, 0, Kind.BITS, 1, 20);
        Check.due("it puts out both", x.front(0), 2);
        pair(x, 0, 1, 1, 20);
        changed(x, 0, Kind.SHORT, 1, 21);
        Check.due("saves one more, is more off", x.front(0), 3);
        pair(x, 0, 2, 9, 21);
    }

    /** "Of CHOICES that are not BARRED." */
    private static void frontWithoutTheBarred() {
        NearEnough x = Check.told(PLACED + "end t off 0 never;");
        changed(x, 0, Kind.BITS, 1, 50);
        Check.due("all but 0 is BARRED", x.front(0), 1);
        pair(x, 0, 0, 0, 0);
        changed(x, 2, Kind.BITS, 1, 5);
        Check.due("one that is not", x.front(0), 2);
        pair(x, 0, 1, 1, 5);
        changed(x, 1, Kind.LEFT, 0, 1);
        Check.due("LEFT, nothing is BARRED", x.front(0), 2);
        pair(x, 0, 0, 0, 51);
        pair(x, 0, 1, 1, 56);
    }

    private static void frontOfMany() {
        // Ten CHANGES whose OFFS and saves each go beyond all smaller ones together: each CHOICE is a pair.
        StringBuilder text = new StringBuilder("row r has 1 from 0 to 9;sum z of r;sum a of r;");
        for (char name = 'b'; name <= 'k'; name++) {
            text.append("add ").append(name).append(' ').append((char) (name - 1)).append(" z;");
        }
        NearEnough x = Check.told(text + "end k off 0 never;");
        for (int n = 1; n <= 10; n++) {
            changed(x, n, Kind.BITS, n, 1 << (n - 1));
        }
        Check.due("each CHOICE is a pair", x.front(0), 1024);
        int[] asked = {0, 1, 2, 3, 511, 512, 1022, 1023};
        for (int i : asked) {
            pair(x, 0, i, 2L * i - Integer.bitCount(i), i);
        }
        noPair(x, 0, 1024);
        noPair(x, 0, 4095);
        noPair(x, 0, 4096);
    }

    /** "NONE if there is none such." */
    private static void frontOfNoEnd() {
        NearEnough x = Check.told(TWO + "end s off 0 never;end m off 0 never;");
        int[] none = {2, 3, 4, -1, LOWEST, HIGHEST};
        for (int number : none) {
            Check.due("END " + number, x.front(number), NONE);
            noPair(x, number, 0);
            noPair(x, 0, number);
            Check.due("what " + number, x.pair(0, 0, number), NONE);
        }
        Check.due("the last END", x.front(1), 1);
        pair(x, 1, 0, 0, 0);
    }

    /** "GUARDS, 4 at most: of an END, a STEP and a number (0 .. 9999)." "Its number; NONE, doing nothing, .. or there are 4." */
    private static void fourGuards() {
        NearEnough x = Check.told(TWO + "end s off 0 never;");
        int[] none = {-1, 2, 4, 12, LOWEST, HIGHEST};
        for (int number : none) {
            Check.due("END " + number, x.guard(number, 0, 0), NONE);
            Check.due("STEP " + number, x.guard(0, number, 0), NONE);
            Check.due("nothing is done", x.about(5), 0);
        }
        Check.due("END 1", x.guard(1, 0, 0), NONE);
        int[] beyond = {-1, 10000, LOWEST, HIGHEST};
        for (int within : beyond) {
            Check.due("within " + within, x.guard(0, 0, within), NONE);
            Check.due("nothing is done", x.about(5), 0);
        }
        x.sheet(false);
        Check.fill(x, 0, 0, 4, 5);
        Check.due("within 9999", x.guard(0, 0, 9999), 0);
        Check.due("within 0", x.guard(0, 0, 0), 1);
        Check.due("the last STEP", x.guard(0, 1, 9999), 2);
        Check.due("like ones can be", x.guard(0, 1, 9999), 3);
        for (int turn = 0; turn < 2; turn++) {
            Check.due("a 5th", x.guard(0, 1, 0), NONE);
            Check.due("four", x.about(5), 4);
            Check.due("it turns nothing back", x.turned(0, 0), 0);
        }
    }

    /** "It turns back, if what comes of the END's STEP and of that STEP differ by more." */
    private static void guardsThatTurnBack() {
        // STEPS: 0 s, 1 m; by SHORT of s it is the first number only.
        NearEnough x = Check.told(TWO + "end s off 0 one;end m off 0 one;");
        int choice = changed(x, 0, Kind.SHORT, 1, 0);
        x.sheet(false);
        Check.fill(x, 0, 0, 3, 8);
        x.guard(0, 1, 5);
        Check.due("3 and 8 differ by 5, not more", x.turned(0, choice), 0);
        Check.due("11 and 8 by 3", x.turned(0, 0), 0);
        x.put(0, 0, 1, 9);
        Check.due("3 and 9 differ by 6", x.turned(0, choice), 1);
        Check.due("12 and 9 by 3", x.turned(0, 0), 0);
        Check.due("of the other END it is no GUARD", x.turned(1, choice), 0);
        x.guard(1, 0, 5);
        Check.due("it is now", x.turned(1, choice), 1);
        x.put(0, 0, 0, 6);
        Check.due("6 and 9 differ by 3", x.turned(0, choice), 0);
        Check.due("15 and 9 by 6", x.turned(0, 0), 1);
        x.sheet(true);
        Check.fill(x, 1, 0, 9, 9);
        Check.due("both SHEETS, one is kept back", x.turned(0, 0), 2);
        x.guard(0, 1, 0);
        Check.due("two GUARDS turn one SHEET back once", x.turned(0, 0), 2);
        Check.due("9 and 9 do not differ", x.turned(0, choice), 1);
        NearEnough three = Check.told(TWO + "add t s m;end s off 0 one;end m off 0 one;");
        three.sheet(false);
        Check.fill(three, 0, 0, 3, 8);
        three.guard(0, 2, 0);
        Check.due("s and t differ", three.turned(0, 0), 1);
        Check.due("m and t, too, but it is no GUARD of m", three.turned(1, 0), 0);
        int shorter = changed(three, 1, Kind.SHORT, 1, 0);
        Check.due("so m gets through", three.through(1, shorter), 1);
    }

    /** The least and the greatest number of a GUARD, and the END's own STEP. */
    private static void guardsAtTheirBounds() {
        // STEPS: 0 s, 1 t of twice that, 2 z of 0.
        NearEnough x = Check.told("row r has 6 from 0 to 999;sum s of r;add t s s;less z s s;end t off 0 one;");
        x.sheet(false);
        Check.fill(x, 0, 0, 999, 999, 999, 999, 999, 4);
        x.guard(0, 2, 9999);
        Check.due("9998 is not more", x.turned(0, 0), 0);
        x.put(0, 0, 5, 5);
        Check.due("10000 is more", x.turned(0, 0), 1);
        NearEnough y = Check.told("row r has 1 from -9 to 9;sum s of r;less z s s;end z off 0 one;");
        y.sheet(false);
        y.guard(0, 1, 0);
        Check.due("its own STEP does not differ", y.turned(0, 0), 0);
        y.guard(0, 0, 0);
        Check.due("9 differs by 9", y.turned(0, 0), 1);
        y.put(0, 0, 0, 0);
        Check.due("0 does not differ", y.turned(0, 0), 0);
        y.put(0, 0, 0, 1);
        Check.due("1 is more than 0", y.turned(0, 0), 1);
    }

    /** "THROUGH: SHEETS in which the ERROR of an END is more than off and no GUARD of it turns back." */
    private static void throughMoreThanOff() {
        NearEnough x = Check.told("row r has 2 from -9 to 9;sum s of r;most m of r;end s off 3 never;end m off 9 one;");
        int choice = changed(x, 0, Kind.SHORT, 1, 0);
        Check.due("no SHEETS", x.through(0, choice), 0);
        Check.due("no SHEETS", x.turned(0, choice), 0);
        int[] second = {4, 3, -3, 0, 9, -4};
        for (int sheet = 0; sheet < second.length; sheet++) {
            x.sheet(sheet % 2 == 0);
            Check.fill(x, sheet, 0, 0, second[sheet]);
        }
        Check.due("more than 3: 4, -4 and 9", x.through(0, choice), 3);
        Check.due("none by 0", x.through(0, 0), 0);
        Check.due("of the other END", x.through(1, choice), 0);
        x.guard(1, 0, 0);
        Check.due("a GUARD of the other END", x.through(0, choice), 3);
        x.guard(0, 1, 4);
        Check.due("m differs by 9 from s once", x.turned(0, choice), 1);
        Check.due("4 and -4 get through", x.through(0, choice), 2);
        x.guard(0, 1, 3);
        Check.due("m differs by 4, too", x.turned(0, choice), 2);
        Check.due("-4 gets through, m is 0 there", x.through(0, choice), 1);
        int[] none = {2, -1, 4, LOWEST, HIGHEST};
        for (int number : none) {
            Check.due("through of END " + number, x.through(number, 0), NONE);
            Check.due("turned of END " + number, x.turned(number, 0), NONE);
            Check.due("through by " + number, x.through(0, number), NONE);
            Check.due("turned by " + number, x.turned(0, number), NONE);
        }
        NearEnough barred = Check.told(PLACED + "end t off 0 never;");
        changed(barred, 0, Kind.BITS, 1, 0);
        barred.sheet(false);
        Check.due("through by a BARRED one", barred.through(0, 1), NONE);
        Check.due("turned by a BARRED one", barred.turned(0, 1), NONE);
    }

    /** A GUARD that turns back is asked by THROUGH and TURNED alone: an ERROR is what the CHOICE makes of it. */
    private static void guardsAreNoMatterElsewhere() {
        NearEnough x = Check.told(TWO + "end s off 3 mean;");
        int choice = changed(x, 0, Kind.SHORT, 1, 6);
        x.sheet(false);
        Check.fill(x, 0, 0, 1, 8);
        x.guard(0, 1, 0);
        Check.due("it turns back", x.turned(0, choice), 1);
        Check.due("value", x.value(0, 0, choice), 1);
        Check.due("measured", x.measured(0, choice), 8);
        Check.due("mean", x.mean(0, choice, 0), 8);
        Check.due("let", x.let(choice), 0);
        Check.due("best", x.best(), 0);
        Check.due("worst", x.worst(0, choice, 0), -9);
        Check.due("led", x.led(0, 0, choice, 0), -8);
        Check.due("plan for 7", x.plan(0, 7), 0);
        Check.due("plan for 8", x.plan(0, 8), 6);
        x.purse(10);
        Check.due("day", x.day(0, 0, choice), 2);
        Check.due("day that turns back", x.day(0, 0, choice), -2);
    }

    /** "4 ENDS, numbered as told": here against the order of their STEPS. */
    private static void endsAreNumberedAsTold() {
        // STEPS: 0 s, 1 m, 2 t; END 0 is of t, END 1 of s; s is 6 and 11, m 5 and 9, t 11 and 20.
        NearEnough x = Check.told(TWO + "add t s m;end t off 12 one;end s off 8 mean;");
        changed(x, 0, Kind.SHORT, 1, 6);
        changed(x, 2, Kind.BITS, 4, 3);
        x.sheet(false);
        x.sheet(true);
        Check.fill(x, 0, 0, 1, 5);
        Check.fill(x, 1, 0, 2, 9);
        asked(x, 0, 1, 9, 5, 1, 7, 1, 0);
        asked(x, 1, 1, 9, 5, 1, 7, 1, 1);
        asked(x, 0, 2, 15, 11, 0, 15, 2, 0);
        asked(x, 1, 2, 0, 0, 0, 0, 1, 0);
        asked(x, 0, 3, 24, 11, 1, 31, 2, 1);
        asked(x, 1, 3, 9, 5, 1, 7, 1, 1);
        worst(x, 0, 2, -11, 3);
        worst(x, 1, 2, 0, 0);
        worst(x, 0, 3, -18, 2);
        worst(x, 1, 3, -9, 2);
        Check.due("led of t", x.led(0, 0, 3, 1), -6);
        Check.due("led of s", x.led(1, 0, 3, 1), 0);
        Check.due("front of t", x.front(0), 3);
        pair(x, 0, 2, 24, 9);
        Check.due("front of s", x.front(1), 2);
        pair(x, 1, 1, 9, 9);
        plan(x, 4, 3, 0, 2);
        plan(x, 5, 6, 1, 0);
        Check.due("plan of s for 4", x.plan(1, 4), 6);
        Check.due("plan of s for 5", x.plan(1, 5), 12);
        Check.due("planned of s", x.planned(1, 5, 0), 3);
        x.purse(11);
        Check.due("day of s", x.day(1, 0, 2), 11);
        Check.due("day of t", x.day(0, 0, 2), 0);
        x.guard(0, 1, 6);
        Check.due("t and m differ by more than 6 once", x.turned(0, 0), 1);
        Check.due("s has no GUARD", x.turned(1, 0), 0);
    }

    /** OFF, MEASURED, PASSED, both parts of MEAN, and THROUGH of an END by a CHOICE. */
    private static void asked(NearEnough x, int end, int choice, long... due) {
        String of = " of END " + end + " by " + choice;
        Check.due("off" + of, x.off(end, choice), due[0]);
        Check.due("measured" + of, x.measured(end, choice), due[1]);
        Check.due("passed" + of, x.passed(end, choice), due[2]);
        Check.due("upper part" + of, x.mean(end, choice, 0), due[3]);
        Check.due("lower part" + of, x.mean(end, choice, 1), due[4]);
        Check.due("through" + of, x.through(end, choice), due[5]);
    }

    private static void worst(NearEnough x, int end, int choice, long error, long bits) {
        Check.due("WORST of END " + end + " by " + choice, x.worst(end, choice, 0), error);
        Check.due("its bits", x.worst(end, choice, 1), bits);
    }

    /** "WORST: the one with the greatest ERROR without sign; of like ones the least number." "The ERROR (its sign, too)." */
    private static void worstOfLikeOnes() {
        NearEnough x = Check.told("row r has 3 from -5 to 5;sum s of r;most m of r;end s off 0 never;end m off 0 never;");
        worst(x, 0, 0, 0, 0);
        // The third number is left out: 5 where it is -5, -5 where it is 5.
        worst(x, 0, changed(x, 0, Kind.SHORT, 2, 0), 5, 0);
        worst(x, 1, changed(x, 1, Kind.SHORT, 1, 0), -10, 2);
        worst(x, 0, changed(x, 0, Kind.SHORT, 1, 0), 10, 0);
        // The first and third by 3 / 2, so the second counts: -15 + 15, -15 + 5 ..
        worst(x, 0, changed(x, 0, Kind.SKIP, 2, 0), -10, 2);
        worst(x, 0, changed(x, 0, Kind.OLD, 0, 0), 0, 0);
        worst(x, 1, changed(x, 1, Kind.LEFT, 0, 0), 5, 0);
        NearEnough up = Check.told("row r has 2 from -5 to 6;sum s of r;end s off 0 never;");
        worst(up, 0, changed(up, 0, Kind.SHORT, 1, 0), -6, 2);
        NearEnough down = Check.told("row r has 2 from -6 to 5;sum s of r;end s off 0 never;");
        worst(down, 0, changed(down, 0, Kind.SHORT, 1, 0), 6, 0);
        NearEnough like = Check.told("row r has 2 from 3 to 3;sum s of r;end s off 0 never;");
        worst(like, 0, changed(like, 0, Kind.BITS, 2, 0), -2, 0);
    }

    /** "Bits: 1 for the greatest, place by place, ROW 0 first, from the lowest bit." */
    private static void worstOfTwelvePlaces() {
        // ROW 1 is told ahead of the STEPS of ROW 0, and its STEP first: the bits go by ROWS.
        NearEnough x = Check.told("row r has 6 from 0 to 9;row q has 6 from 0 to 8;sum t of q;sum s of r;most m of q;"
                + "add u s t;end u off 0 never;end s off 0 never;end t off 0 never;");
        worst(x, 0, changed(x, 1, Kind.SHORT, 5, 0), -9, 1 << 5);
        worst(x, 0, changed(x, 0, Kind.SHORT, 5, 0), -8, 1 << 11);
        worst(x, 0, 3, -17, 1 << 5 | 1 << 11);
        worst(x, 0, changed(x, 1, Kind.SHORT, 1, 0), -45, 0b111110);
        worst(x, 0, changed(x, 0, Kind.SHORT, 1, 0), -40, 0b111110000000);
        worst(x, 1, changed(x, 1, Kind.LEFT, 0, 0), 27, 0);
        worst(x, 0, changed(x, 3, Kind.LEFT, 0, 0), 51, 0);
        worst(x, 2, changed(x, 0, Kind.COARSE, 99, 0), -48, 0b111111000000);
        worst(x, 1, changed(x, 1, Kind.COARSE, 99, 0), -54, 0b000000111111);
        worst(x, 0, 0b11000000, -102, 4095);
        NearEnough late = Check.told("row r has 1 from 0 to 9;sum s of r;row q has 2 from 0 to 8;sum t of q;end t off 0 never;");
        worst(late, 0, changed(late, 1, Kind.SHORT, 1, 0), -8, 0b100);
        late.sheet(false);
        late.put(0, 1, 0, 3);
        worst(late, 0, 1, -8, 0b100);
        Check.due("the SHEET is as it was", late.value(1, 0, 0), 3);
    }

    /** "-1000000000000 if one can't be, or the CHOICE is BARRED." */
    private static void worstOfNone() {
        NearEnough x = Check.told(PLACED + "end t off 0 never;");
        changed(x, 0, Kind.BITS, 1, 0);
        int[] none = {-1, 2, 3, 4, LOWEST, HIGHEST};
        for (int number : none) {
            Check.due("END " + number, x.worst(number, 0, 0), Check.NO_ERROR);
            Check.due("CHOICE " + number, x.worst(0, number, 0), Check.NO_ERROR);
            Check.due("what " + number, x.worst(0, 0, number), Check.NO_ERROR);
        }
        Check.due("END 1", x.worst(1, 0, 1), Check.NO_ERROR);
        Check.due("BARRED", x.worst(0, 1, 0), Check.NO_ERROR);
        Check.due("BARRED", x.worst(0, 1, 1), Check.NO_ERROR);
        Check.due("by 0", x.worst(0, 0, 0), 0);
        Check.due("by 0", x.worst(0, 0, 1), 0);
    }

    /** "LED: the ERROR of an END by all of its CHANGES up to this one (by numbers) less that by those ahead of it." */
    private static void ledToEachChange() {
        // STEPS: 0 s, 1 m, 2 t; the CHANGES are told against the order of the STEPS.
        NearEnough x = Check.told(TWO + "add t s m;end t off 0 never;end s off 0 never;");
        x.sheet(true);
        Check.fill(x, 0, 0, 4, 9);
        changed(x, 2, Kind.BITS, 3, 0);
        changed(x, 1, Kind.SHORT, 1, 0);
        changed(x, 0, Kind.SHORT, 1, 0);
        // 22 is 16; 13 + 4 is 16; 4 + 4 is 8.
        long[] led = {-6, 0, -8};
        long together = 0;
        for (int change = 0; change < 3; change++) {
            Check.due("to CHANGE " + change, x.led(0, 0, 7, change), led[change]);
            together += led[change];
        }
        Check.due("all together are the ERROR", x.value(2, 0, 7) - x.value(2, 0, 0), together);
        Check.due("to the second alone", x.led(0, 0, 2, 1), -5);
        Check.due("to the third, without the first", x.led(0, 0, 6, 2), -9);
        Check.due("to the third, without the second", x.led(0, 0, 5, 2), -8);
        Check.due("of the other END", x.led(1, 0, 7, 2), -9);
        Check.due("of the other END none", x.led(1, 0, 7, 0), 0);
        NearEnough all = twelveSums();
        all.sheet(false);
        all.put(0, 0, 0, 9);
        for (int step = 0; step < 12; step++) {
            changed(all, step, Kind.BITS, 3, 0);
        }
        Check.due("to the first of twelve", all.led(0, 0, 4095, 0), -1);
        Check.due("to the last of twelve", all.led(1, 0, 4095, 11), -1);
        Check.due("to the last but one", all.led(1, 0, 4095, 10), 0);
        Check.due("to the last alone", all.led(1, 0, 2048, 11), -1);
    }

    /** "-1000000000000 if one can't be (the CHANGE is in the CHOICE)." */
    private static void ledToNone() {
        NearEnough x = Check.told(TWO + "end s off 0 never;");
        x.sheet(false);
        Check.fill(x, 0, 0, 4, 9);
        changed(x, 0, Kind.SHORT, 1, 0);
        changed(x, 1, Kind.SHORT, 1, 0);
        changed(x, 0, Kind.BITS, 1, 0);
        int[] none = {-1, 3, 11, 12, 31, 32, 33, 64, LOWEST, HIGHEST};
        for (int number : none) {
            Check.due("END " + number, x.led(number, 0, 3, 0), Check.NO_ERROR);
            Check.due("SHEET " + number, x.led(0, number, 3, 0), Check.NO_ERROR);
            Check.due("CHANGE " + number, x.led(0, 0, 3, number), Check.NO_ERROR);
        }
        int[] noChoices = {5, 7, 8, 9, -1, LOWEST, HIGHEST};
        for (int choice : noChoices) {
            Check.due("CHOICE " + choice, x.led(0, 0, choice, 0), Check.NO_ERROR);
        }
        Check.due("END 1", x.led(1, 0, 3, 0), Check.NO_ERROR);
        Check.due("SHEET 1", x.led(0, 1, 3, 0), Check.NO_ERROR);
        Check.due("a CHANGE that is not in it", x.led(0, 0, 3, 2), Check.NO_ERROR);
        Check.due("a CHANGE that is not in it", x.led(0, 0, 2, 0), Check.NO_ERROR);
        Check.due("none is in 0", x.led(0, 0, 0, 0), Check.NO_ERROR);
        Check.due("one that is", x.led(0, 0, 3, 0), -9);
    }

    /** "Or one of both CHOICES is BARRED." */
    private static void ledThroughTheBarred() {
        NearEnough x = Check.told(PLACED + "end t off 0 never;");
        x.sheet(false);
        Check.fill(x, 0, 0, 1, 2, 4);
        changed(x, 2, Kind.SHORT, 2, 0);
        changed(x, 0, Kind.BITS, 1, 0);
        changed(x, 1, Kind.LEFT, 0, 0);
        Check.due("not BARRED up to the first", x.led(0, 0, 7, 0), -4);
        Check.due("BARRED by the second", x.led(0, 0, 7, 1), Check.NO_ERROR);
        Check.due("BARRED ahead of the third", x.led(0, 0, 7, 2), Check.NO_ERROR);
        Check.due("the third without the second", x.led(0, 0, 5, 2), 0);
    }

    /** "THE PURSE is so much (0 .. 99999), nothing spent: true; false, doing nothing, if it can't be." */
    private static void purseOfSoMuch() {
        NearEnough x = new NearEnough();
        Check.due("0 at first", x.about(6), 0);
        int[] can = {99999, 0, 1, 99998};
        int[] wrong = {-1, 100000, LOWEST, HIGHEST};
        for (int much : can) {
            Check.due("purse of " + much, x.purse(much), true);
            Check.due("so much is left", x.about(6), much);
            for (int beyond : wrong) {
                Check.due("purse of " + beyond, x.purse(beyond), false);
                Check.due("nothing is done", x.about(6), much);
            }
        }
    }

    /** "A DAY spends its ERROR without sign, if that is not more than is left; else it turns back, and spends nothing." */
    private static void daysUpToWhatIsLeft() {
        NearEnough x = Check.told("row r has 2 from -9 to 9;sum s of r;most m of r;end s off 0 never;end m off 0 never;");
        int choice = changed(x, 0, Kind.SHORT, 1, 0);
        x.sheet(false);
        x.sheet(true);
        Check.fill(x, 0, 0, 0, 5);
        Check.fill(x, 1, 0, 0, -3);
        Check.due("0 at first: more than is left", x.day(0, 0, choice), -2);
        Check.due("an ERROR of 0 is not", x.day(0, 0, 0), 0);
        x.purse(8);
        Check.due("5 of 8", x.day(0, 0, choice), 3);
        Check.due("5 of 3", x.day(0, 0, choice), -2);
        Check.due("spends nothing", x.about(6), 3);
        Check.due("3 of 3, without sign", x.day(0, 1, choice), 0);
        Check.due("3 of 0", x.day(0, 1, choice), -2);
        Check.due("0 of 0", x.day(1, 1, choice), 0);
        x.purse(4);
        Check.due("5 of 4", x.day(0, 0, choice), -2);
        x.purse(5);
        Check.due("5 of 5", x.day(0, 0, choice), 0);
        x.purse(99999);
        Check.due("5 of the most", x.day(0, 0, choice), 99994);
        Check.due("the purse anew", x.purse(99999), true);
        Check.due("nothing is spent", x.about(6), 99999);
        NearEnough wide = Check.told("row r has 1 from 0 to 999;sum s of r;times t s s;end t off 0 never;");
        wide.sheet(false);
        wide.put(0, 0, 0, 999);
        changed(wide, 1, Kind.LEFT, 0, 0);
        wide.purse(99999);
        Check.due("499001 of 99999", wide.day(0, 0, 1), -2);
        Check.due("spends nothing", wide.about(6), 99999);
    }

    /** "NONE, doing nothing, if one can't be, or the CHOICE is BARRED." */
    private static void daysThatCanNotBe() {
        NearEnough x = Check.told(PLACED + "end t off 0 never;");
        x.sheet(false);
        changed(x, 0, Kind.BITS, 1, 0);
        x.purse(77);
        int[] none = {-1, 1, 2, 4, 40, LOWEST, HIGHEST};
        for (int number : none) {
            Check.due("END " + number, x.day(number, 0, 0), NONE);
            Check.due("SHEET " + number, x.day(0, number, 0), NONE);
            Check.due("CHOICE " + number, x.day(0, 0, number), NONE);
            Check.due("nothing is done", x.about(6), 77);
        }
        Check.due("one that can be", x.day(0, 0, 0), 77);
    }

    private static void plan(NearEnough x, int much, int saves, int... choices) {
        Check.due("PLAN for " + much, x.plan(0, much), saves);
        for (int sheet = 0; sheet < choices.length; sheet++) {
            Check.due("SHEET " + sheet + " for " + much, x.planned(0, much, sheet), choices[sheet]);
        }
    }

    /** "PLAN of an END for so much (0 .. 400): its ERRORS without sign are no more than that, all SHEETS together." */
    private static void planForSoMuch() {
        NearEnough x = Check.told("row r has 2 from -999 to 999;sum s of r;end s off 0 never;");
        int choice = changed(x, 0, Kind.SHORT, 1, 5);
        x.sheet(false);
        Check.fill(x, 0, 0, 0, 400);
        plan(x, 400, 5, choice);
        plan(x, 399, 0, 0);
        plan(x, 0, 0, 0);
        Check.fill(x, 0, 0, 0, -400);
        plan(x, 400, 5, choice);
        plan(x, 399, 0, 0);
        Check.fill(x, 0, 0, 0, 401);
        plan(x, 400, 0, 0);
        Check.fill(x, 0, 0, 0, -401);
        plan(x, 400, 0, 0);
        Check.fill(x, 0, 0, 0, 0);
        plan(x, 0, 5, choice);
        x.sheet(true);
        Check.fill(x, 0, 0, 0, 401);
        Check.fill(x, 1, 0, 0, 7);
        plan(x, 6, 0, 0, 0);
        plan(x, 7, 5, 0, choice);
        plan(x, 400, 5, 0, choice);
        Check.fill(x, 0, 0, 0, 7);
        Check.fill(x, 1, 0, 0, -401);
        plan(x, 6, 0, 0, 0);
        plan(x, 400, 5, choice, 0);
        Check.fill(x, 0, 0, 0, 150);
        Check.fill(x, 1, 0, 0, -250);
        plan(x, 400, 10, choice, choice);
        plan(x, 399, 5, 0, choice);
        plan(x, 250, 5, 0, choice);
        plan(x, 249, 5, choice, 0);
        plan(x, 150, 5, choice, 0);
        plan(x, 149, 0, 0, 0);
    }

    private static void planOfFortySheets() {
        NearEnough x = Check.told(TWO + "end s off 0 never;");
        int shorter = changed(x, 0, Kind.SHORT, 1, 999);
        int bits = changed(x, 0, Kind.BITS, 1, 998);
        int free = changed(x, 1, Kind.LEFT, 0, 1);
        for (int sheet = 0; sheet < 40; sheet++) {
            x.sheet(sheet % 2 == 0);
            Check.fill(x, sheet, 0, 3, 8);
        }
        // SHORT errs by 8, BITS by 1: 40 of BITS and 7 more for each SHORT.
        Check.due("all by SHORT", x.plan(0, 320), 40000);
        Check.due("the last by SHORT", x.planned(0, 320, 39), shorter | free);
        Check.due("one can't", x.plan(0, 319), 39999);
        Check.due("that is not the first", x.planned(0, 319, 0), shorter | free);
        Check.due("the least go first", x.planned(0, 319, 39), bits | free);
        Check.due("for the most", x.plan(0, 400), 40000);
        Check.due("all by BITS", x.plan(0, 40), 39960);
        Check.due("one without", x.plan(0, 39), 38962);
        Check.due("is the first", x.planned(0, 39, 0), free);
        Check.due("the others are not", x.planned(0, 39, 1), bits | free);
        Check.due("for nothing", x.plan(0, 0), 40);
        Check.due("the last", x.planned(0, 0, 39), free);
    }

    /** "And most is saved, all together; of like ones the least CHOICES, SHEET by SHEET." */
    private static void planOfLikeOnes() {
        NearEnough x = Check.told(TWO + "end s off 0 never;");
        int wide = changed(x, 0, Kind.SHORT, 1, 5);
        int small = changed(x, 0, Kind.BITS, 1, 5);
        changed(x, 1, Kind.LEFT, 0, 0);
        x.sheet(false);
        x.sheet(false);
        Check.fill(x, 0, 0, 0, 3);
        Check.fill(x, 1, 0, 0, 3);
        plan(x, 0, 0, 0, 0);
        plan(x, 1, 5, 0, small);
        plan(x, 2, 10, small, small);
        plan(x, 3, 10, small, small);
        plan(x, 4, 10, wide, small);
        plan(x, 5, 10, wide, small);
        plan(x, 6, 10, wide, wide);
    }

    private static void planWithoutSheets() {
        NearEnough x = Check.told(TWO + "end s off 0 never;");
        changed(x, 0, Kind.SHORT, 5, 9);
        Check.due("no SHEETS", x.plan(0, 400), 0);
        Check.due("for nothing", x.plan(0, 0), 0);
        Check.due("no SHEET", x.planned(0, 400, 0), NONE);
        x.sheet(false);
        Check.due("a SHEET", x.plan(0, 0), 9);
        Check.due("its CHOICE", x.planned(0, 0, 0), 1);
        NearEnough barred = Check.told(PLACED + "end t off 0 never;");
        changed(barred, 0, Kind.BITS, 1, 9);
        barred.sheet(false);
        Check.due("BARRED", barred.plan(0, 400), 0);
        Check.due("the CHOICE 0", barred.planned(0, 400, 0), 0);
    }

    /** "NONE if one can't be." */
    private static void planThatCanNotBe() {
        NearEnough x = Check.told(TWO + "end s off 0 never;");
        x.sheet(false);
        int[] none = {-1, 1, 4, 40, LOWEST, HIGHEST};
        for (int number : none) {
            Check.due("END " + number, x.plan(number, 0), NONE);
            Check.due("END " + number, x.planned(number, 0, 0), NONE);
            Check.due("SHEET " + number, x.planned(0, 0, number), NONE);
        }
        int[] beyond = {-1, 401, LOWEST, HIGHEST};
        for (int much : beyond) {
            Check.due("for " + much, x.plan(0, much), NONE);
            Check.due("for " + much, x.planned(0, much, 0), NONE);
        }
        Check.due("for 0", x.plan(0, 0), 0);
        Check.due("for 400", x.plan(0, 400), 0);
        Check.due("for 400", x.planned(0, 400, 0), 0);
    }

    /** "What 0: ROWS, 1: STEPS .. NONE for another what." */
    private static void aboutAll() {
        NearEnough x = Check.told("row r has 2 from 0 to 9;row q has 2 from 0 to 9;sum s of r;sum t of r;sum u of q;"
                + "end s off 0 never;");
        abouts(x, 2, 3, 1, 0, 0, 0, 0, 0);
        x.sheet(true);
        x.sheet(true);
        x.sheet(true);
        x.sheet(true);
        abouts(x, 2, 3, 1, 4, 0, 0, 0, 0);
        for (int i = 0; i < 5; i++) {
            x.change(0, Kind.LEFT, 0, 0);
        }
        x.guard(0, 0, 0);
        x.guard(0, 0, 0);
        x.purse(66);
        x.feed(0, 0, 0, 0, 0);
        x.end(7);
        abouts(x, 2, 3, 1, 4, 5, 2, 66, 7);
        int[] others = {-1, 8, 9, LOWEST, HIGHEST};
        for (int what : others) {
            Check.due("about " + what, x.about(what), NONE);
        }
    }

    private static void aboutTheFullest() {
        StringBuilder text = new StringBuilder("row r has 6 from -999 to 999;row q has 6 from -999 to 999;");
        for (int i = 0; i < 12; i++) {
            text.append("sum s").append((char) ('a' + i)).append(i % 2 == 0 ? " of r;" : " of q;");
        }
        NearEnough x = Check.told(text + "end sa off 0 never;end sb off 0 mean;end sk off 0 one;end sl off 0 one;");
        for (int i = 0; i < 41; i++) {
            x.sheet(i == 40);
        }
        for (int i = 0; i < 13; i++) {
            x.change(i % 12, Kind.BITS, 1, 999);
        }
        for (int i = 0; i < 5; i++) {
            x.guard(3, i, 9999);
        }
        x.purse(99999);
        for (int i = 0; i < 51; i++) {
            x.feed(0, 0, 0, 0, 0);
        }
        abouts(x, 2, 12, 4, 40, 12, 4, 99999, 1000);
        Check.due("the last number of the last SHEET", x.put(39, 1, 5, 999), true);
        Check.due("the last STEP on it", x.value(11, 39, 0), -3996);
        Check.due("by all", x.value(11, 39, 4095), -3996);
        Check.due("the last END", x.off(3, 4095), 1);
        Check.due("the last CHANGE", x.led(3, 39, 4095, 11), 0);
        Check.due("the last SHEET of the PLAN", x.planned(3, 400, 39), 4095);
        Check.due("its saves", x.plan(3, 400), 40 * 12 * 999);
        Check.due("THROUGH", x.through(3, 4095), 0);
    }

    private static void abouts(NearEnough x, int... due) {
        for (int what = 0; what < due.length; what++) {
            Check.due("about " + what, x.about(what), due[what]);
        }
    }
}
