/** Promises 7 to 19: SHEETS, CHANGES, what comes, what is SHOWN, what is measured, what is LET. */
public final class WorkingTest {
    private static final int NONE = NearEnough.NONE;
    // STEPS: 0 s, 1 m, 2 i, 3 a, 4 h, 5 t, 6 d, 7 p.
    private static final String TEXT = "row r has 5 from -4 to 9;row q has 2 from 0 to 3;sum s of r;most m of r;"
            + "sum i of q;at a r place i;scale h s by -1 over 2;times t m i;less d s m;pick p s h if a under m;"
            + "end p off 3 mean;end a off 0 never;end s off 5 one;";
    private static final String SMALL = "row r has 2 from 0 to 9;sum s of r;";

    private WorkingTest() {
    }

    public static void main(String[] args) {
        sheets();
        puts();
        changes();
        values();
        oldValues();
        places();
        wrongValues();
        errorsOfRows();
        errorsOfSteps();
        errorsOfPicks();
        barring();
        barringAtTheEdge();
        offs();
        measuring();
        means();
        savingAndTicking();
        letting();
        Check.finish();
    }

    private static NearEnough filled() {
        NearEnough x = Check.told(TEXT);
        x.sheet(false);
        Check.fill(x, 0, 0, 9, -3, 4, 0, -4);
        Check.fill(x, 0, 1, 3, 2);
        return x;
    }

    /** A new object whose one CHANGE is this. */
    private static NearEnough changed(int step, int kind, int n) {
        NearEnough x = filled();
        Check.due("change " + step + " " + kind + " " + n, x.change(step, kind, n, 1), 0);
        return x;
    }

    private static void sheets() {
        NearEnough x = Check.told(TEXT);
        for (int sheet = 0; sheet < 40; sheet++) {
            Check.due("sheet", x.sheet(sheet % 2 == 0), sheet);
        }
        Check.due("a 41st", x.sheet(true), NONE);
        Check.due("still 40", x.about(3), 40);
        Check.due("all are the least at first", x.value(0, 39, 0), -20);
        NearEnough none = new NearEnough();
        Check.due("a SHEET without a PROGRAM", none.sheet(false), 0);
        NearEnough again = Check.told(SMALL);
        again.sheet(false);
        Check.fill(again, 0, 0, 7, 8);
        Check.tape(again, Check.bytes(SMALL));
        again.program();
        again.sheet(false);
        Check.due("the least again", again.value(0, 0, 0), 0);
    }

    private static void puts() {
        NearEnough x = filled();
        Check.due("no SHEET", x.put(1, 0, 0, 0), false);
        Check.due("no SHEET", x.put(-1, 0, 0, 0), false);
        Check.due("no ROW", x.put(0, 2, 0, 0), false);
        Check.due("no ROW", x.put(0, -1, 0, 0), false);
        Check.due("no place", x.put(0, 0, 5, 0), false);
        Check.due("no place", x.put(0, 1, 2, 0), false);
        Check.due("no place", x.put(0, 0, -1, 0), false);
        Check.due("below its ROW's", x.put(0, 0, 0, -5), false);
        Check.due("above its ROW's", x.put(0, 0, 0, 10), false);
        Check.due("above its ROW's", x.put(0, 1, 0, 4), false);
        Check.due("nothing done", x.value(0, 0, 0), 6);
        Check.due("the least", x.put(0, 0, 0, -4), true);
        Check.due("what comes then", x.value(0, 0, 0), -7);
        Check.due("the greatest", x.put(0, 0, 0, 9), true);
        Check.due("what comes then", x.value(0, 0, 0), 6);
    }

    private static void changeRange(int step, int kind, int least, int greatest) {
        NearEnough x = Check.told(TEXT);
        Check.due("n below of kind " + kind, x.change(step, kind, least - 1, 0), NONE);
        Check.due("n above of kind " + kind, x.change(step, kind, greatest + 1, 0), NONE);
        Check.due("least n of kind " + kind, x.change(step, kind, least, 0), 0);
        Check.due("greatest n of kind " + kind, x.change(step, kind, greatest, 999), 1);
        Check.due("two", x.about(4), 2);
    }

    private static void changes() {
        changeRange(0, Kind.SKIP, 2, 6);
        changeRange(3, Kind.BITS, 1, 10);
        changeRange(7, Kind.USUAL, 0, 1);
        changeRange(3, Kind.COARSE, 2, 99);
        changeRange(6, Kind.LEFT, 0, 0);
        changeRange(1, Kind.SHORT, 1, 5);
        changeRange(3, Kind.OLD, 0, 0);
        NearEnough x = Check.told(TEXT);
        int[] leastN = {2, 1, 0, 2, 0, 1, 0};
        // By kind: the STEPS (as bits) of which it can be.
        int[] fits = {0b00000101, 0b11111111, 0b10000000, 0b00001111, 0b11111111, 0b00000111, 0b00001111};
        for (int kind = 0; kind < 7; kind++) {
            for (int step = 0; step < 8; step++) {
                NearEnough y = Check.told(TEXT);
                int due = (fits[kind] >> step & 1) != 0 ? 0 : NONE;
                Check.due("kind " + kind + " of STEP " + step, y.change(step, kind, leastN[kind], 5), due);
            }
        }
        Check.due("no kind", x.change(0, 7, 0, 0), NONE);
        Check.due("no kind", x.change(0, -1, 0, 0), NONE);
        Check.due("no STEP", x.change(8, Kind.LEFT, 0, 0), NONE);
        Check.due("no STEP", x.change(-1, Kind.LEFT, 0, 0), NONE);
        Check.due("saves too much", x.change(0, Kind.LEFT, 0, 1000), NONE);
        Check.due("saves below 0", x.change(0, Kind.LEFT, 0, -1), NONE);
        for (int change = 0; change < 12; change++) {
            Check.due("change", x.change(change % 3, Kind.LEFT, 0, 0), change);
        }
        Check.due("a 13th", x.change(0, Kind.LEFT, 0, 0), NONE);
        Check.due("still 12", x.about(4), 12);
    }

    private static void value(int step, int kind, int n, long due) {
        NearEnough x = changed(step, kind, n);
        Check.due("value by kind " + kind + " n " + n + " of STEP " + step, x.value(step, 0, 1), due);
    }

    private static void values() {
        NearEnough x = filled();
        long[] plain = {6, 9, 5, 9, -3, 45, -3, -3};
        for (int step = 0; step < 8; step++) {
            Check.due("plain value of STEP " + step, x.value(step, 0, 0), plain[step]);
        }
        value(0, Kind.SKIP, 2, 15);
        value(0, Kind.SKIP, 3, 22);
        value(0, Kind.SKIP, 4, 12);
        value(0, Kind.SKIP, 6, 45);
        value(0, Kind.SHORT, 1, 9);
        value(0, Kind.SHORT, 3, 10);
        value(0, Kind.SHORT, 5, 6);
        value(2, Kind.SHORT, 5, 5);
        value(1, Kind.SHORT, 1, 9);
        value(0, Kind.COARSE, 5, -5);
        value(0, Kind.COARSE, 99, -198);
        value(1, Kind.COARSE, 4, 8);
        value(3, Kind.COARSE, 4, 8);
        value(4, Kind.BITS, 3, -8);
        value(0, Kind.BITS, 1, 6);
        value(3, Kind.BITS, 1, 8);
        value(7, Kind.BITS, 10, -1024);
        value(0, Kind.LEFT, 0, 12);
        value(1, Kind.LEFT, 0, 2);
        value(3, Kind.LEFT, 0, 2);
        value(4, Kind.LEFT, 0, -6);
        value(6, Kind.LEFT, 0, 10);
        value(7, Kind.USUAL, 0, 6);
        value(7, Kind.USUAL, 1, -3);
        NearEnough y = changed(0, Kind.SKIP, 2);
        Check.due("what comes behind, h", y.value(4, 0, 1), -7);
        Check.due("what comes behind, d", y.value(6, 0, 1), 6);
        Check.due("what comes behind, p", y.value(7, 0, 1), -7);
        NearEnough cut = Check.told("row r has 3 from -9 to 9;sum s of r;scale z s by 7 over 3;");
        cut.sheet(false);
        Check.fill(cut, 0, 0, -5, 9, -2);
        cut.change(0, Kind.SKIP, 2, 0);
        Check.due("SKIP is cut towards 0", cut.value(0, 0, 1), -10);
        Check.due("scale is cut towards 0", cut.value(1, 0, 1), -23);
        Check.due("scale without", cut.value(1, 0, 0), 4);
    }

    private static void oldValues() {
        NearEnough x = changed(0, Kind.OLD, 0);
        x.change(3, Kind.OLD, 0, 0);
        x.change(1, Kind.OLD, 0, 0);
        x.sheet(true);
        Check.due("of the first SHEET its own", x.value(0, 0, 1), 6);
        Check.due("OLD sum", x.value(0, 1, 1), 6);
        Check.due("OLD most", x.value(1, 1, 4), 9);
        Check.due("the place is new, the ROW OLD", x.value(3, 1, 2), 9);
        x.put(1, 1, 0, 1);
        Check.due("at place 1", x.value(3, 1, 2), -3);
        x.put(0, 0, 1, 8);
        Check.due("the SHEET ahead is read anew", x.value(3, 1, 2), 8);
        x.sheet(true);
        Check.due("OLD of the third reads the second", x.value(0, 2, 1), -20);
    }

    private static void places() {
        NearEnough x = Check.told("row r has 4 from -9 to 9;row q has 1 from -9 to 9;sum i of q;at a r place i;");
        x.sheet(false);
        Check.fill(x, 0, 0, 5, 6, 7, 8);
        int[] places = {0, 1, 4, 5, 9, -1, -4, -5, -9};
        int[] due = {5, 6, 5, 6, 6, 8, 5, 8, 8};
        for (int i = 0; i < places.length; i++) {
            x.put(0, 1, 0, places[i]);
            Check.due("at place " + places[i], x.value(1, 0, 0), due[i]);
        }
    }

    private static void wrongValues() {
        NearEnough x = changed(0, Kind.BITS, 1);
        x.change(0, Kind.BITS, 2, 0);
        Check.due("no STEP", x.value(8, 0, 0), NONE);
        Check.due("no STEP", x.value(-1, 0, 0), NONE);
        Check.due("no SHEET", x.value(0, 1, 0), NONE);
        Check.due("no SHEET", x.value(0, -1, 0), NONE);
        Check.due("no CHOICE", x.value(0, 0, 4), NONE);
        Check.due("no CHOICE", x.value(0, 0, -1), NONE);
        Check.due("two of one STEP", x.value(0, 0, 3), NONE);
        Check.due("e of no STEP", x.error(8, 0, false), Check.NO_ERROR);
        Check.due("e of no STEP", x.error(-1, 0, false), Check.NO_ERROR);
        Check.due("e by no CHOICE", x.error(0, 4, false), Check.NO_ERROR);
        Check.due("f by two of one STEP", x.error(0, 3, true), Check.NO_ERROR);
    }

    private static void error(int step, int kind, int n, long low, long high) {
        NearEnough x = changed(step, kind, n);
        Check.errorOf(x, step, 1, low, high);
        Check.errorOf(x, step, 0, 0, 0);
    }

    private static void errorsOfRows() {
        error(0, Kind.SKIP, 2, -27, 27);
        error(0, Kind.SKIP, 3, -40, 40);
        error(0, Kind.SKIP, 6, -53, 53);
        error(0, Kind.SHORT, 2, -27, 12);
        error(0, Kind.SHORT, 4, -9, 4);
        error(0, Kind.SHORT, 5, 0, 0);
        error(1, Kind.SHORT, 1, -13, 0);
        error(1, Kind.SHORT, 5, 0, 0);
        error(2, Kind.SHORT, 2, 0, 0);
        error(0, Kind.OLD, 0, -65, 65);
        error(1, Kind.OLD, 0, -13, 13);
        error(3, Kind.OLD, 0, -13, 13);
        error(0, Kind.COARSE, 5, -20, 0);
        error(1, Kind.COARSE, 4, -3, 0);
        error(3, Kind.COARSE, 4, -3, 0);
        error(3, Kind.BITS, 3, -7, 0);
        error(0, Kind.LEFT, 0, -33, 32);
        error(3, Kind.LEFT, 0, -7, 6);
        NearEnough one = Check.told("row r has 1 from 3 to 3;sum s of r;scale h s by 2 over 1;");
        one.change(0, Kind.SKIP, 2, 0);
        one.change(0, Kind.LEFT, 0, 0);
        Check.errorOf(one, 0, 1, -1, 1);
        Check.errorOf(one, 0, 2, 0, 0);
        Check.errorOf(one, 1, 2, 0, 0);
        Check.errorOf(one, 1, 1, -3, 3);
    }

    private static void errorsOfSteps() {
        NearEnough x = filled();
        x.change(0, Kind.COARSE, 5, 0);
        x.change(1, Kind.COARSE, 4, 0);
        x.change(0, Kind.SKIP, 2, 0);
        x.change(6, Kind.BITS, 2, 0);
        x.change(6, Kind.LEFT, 0, 0);
        Check.errorOf(x, 6, 1, -20, 0);
        Check.errorOf(x, 6, 2, 0, 3);
        Check.errorOf(x, 6, 3, -20, 3);
        Check.errorOf(x, 6, 11, -23, 3);
        Check.errorOf(x, 6, 19, -39, 39);
        Check.errorOf(x, 4, 1, -1, 11);
        Check.errorOf(x, 4, 4, -15, 15);
        Check.errorOf(x, 4, 2, 0, 0);
        Check.errorOf(x, 5, 2, -18, 0);
        NearEnough y = Check.told("row r has 2 from -3 to 4;most m of r;sum s of r;times t m s;add u m s;"
                + "scale z m by 0 over 5;times v m m;");
        y.change(0, Kind.BITS, 1, 0);
        y.change(1, Kind.BITS, 2, 0);
        Check.errorOf(y, 2, 3, -12 - 8 + 0, 9 + 6 + 3);
        Check.errorOf(y, 3, 3, -4, 0);
        Check.errorOf(y, 4, 1, -1, 1);
        Check.errorOf(y, 4, 2, 0, 0);
        Check.errorOf(y, 5, 1, -4 - 4 + 0, 3 + 3 + 1);
    }

    private static void errorsOfPicks() {
        error(7, Kind.USUAL, 0, -30, 67);
        error(7, Kind.USUAL, 1, -67, 30);
        error(7, Kind.BITS, 2, -3, 0);
        error(7, Kind.LEFT, 0, -34, 33);
        NearEnough x = changed(1, Kind.COARSE, 4);
        Check.errorOf(x, 7, 1, -67, 67);
        x.change(4, Kind.BITS, 3, 0);
        Check.errorOf(x, 7, 2, -7, 0);
        Check.errorOf(x, 7, 3, -74, 67);
        x.change(7, Kind.USUAL, 1, 0);
        Check.errorOf(x, 7, 6, -74, 30);
        Check.errorOf(x, 7, 5, -67, 30);
        x.change(0, Kind.BITS, 1, 0);
        Check.errorOf(x, 4, 8, -1, 2);
        Check.errorOf(x, 7, 8, -1, 2);
    }

    private static void barring() {
        NearEnough x = changed(2, Kind.BITS, 1);
        Check.due("BARRED by the at", x.barred(1), 3);
        Check.due("not without", x.barred(0), NONE);
        Check.due("no CHOICE", x.barred(2), -2);
        Check.due("no CHOICE", x.barred(-1), -2);
        Check.due("value of a BARRED one", x.value(0, 0, 1), NONE);
        Check.due("e of a BARRED one", x.error(0, 1, false), Check.NO_ERROR);
        x.change(3, Kind.LEFT, 0, 0);
        x.change(3, Kind.OLD, 0, 0);
        Check.due("not BARRED where it is LEFT", x.barred(3), NONE);
        Check.due("but where it is OLD", x.barred(5), 3);
        x.change(2, Kind.SHORT, 5, 0);
        Check.due("nothing errs by SHORT here", x.barred(8), NONE);
        String wide = "row r has 1 from -999 to 999;most m of r;times b m m;times c b m;";
        NearEnough y = Check.told(wide + "end b off 0 never;");
        y.change(0, Kind.OLD, 0, 0);
        y.change(1, Kind.LEFT, 0, 0);
        Check.due("b is near enough", y.error(1, 2, true), 998001);
        Check.due("c is beyond", y.barred(1), 2);
        Check.due("c is not", y.barred(2), NONE);
        Check.due("off of a BARRED one", y.off(0, 1), NONE);
        Check.due("measured of a BARRED one", y.measured(0, 1), NONE);
        Check.due("let of a BARRED one", y.let(1), 0);
        Check.due("saved of a BARRED one", y.saved(1), 0);
        Check.due("ticks of a BARRED one", y.ticks(1), 3);
    }

    private static void barringAtTheEdge() {
        // STEPS: 0 a, 1 b, 2 c, 3 d of 0 .. 1000000000, 4 z of 0 .. 0, 5 x, 6 p, 7 q.
        NearEnough x = Check.told("row r has 1 from 0 to 100;sum a of r;times b a a;times c b b;"
                + "scale d c by 10 over 1;scale z a by 0 over 1;most x of r;pick p d z if a under a;less q p x;");
        x.change(6, Kind.USUAL, 1, 0);
        x.change(6, Kind.USUAL, 0, 0);
        x.change(5, Kind.LEFT, 0, 0);
        Check.errorOf(x, 7, 1, -1000000000, 0);
        Check.errorOf(x, 7, 2, 0, 1000000000);
        Check.due("just not beyond", x.barred(1), NONE);
        Check.due("just not beyond", x.barred(2), NONE);
        Check.due("beyond below", x.barred(5), 7);
        Check.due("beyond above", x.barred(6), 7);
        NearEnough y = Check.told("row r has 2 from -5 to 0;sum s of r;at a r place s;");
        y.change(0, Kind.SHORT, 1, 0);
        Check.errorOf(y, 0, 0, 0, 0);
        Check.due("0 .. 5 errs, too", y.barred(1), 1);
    }

    private static void offs() {
        NearEnough x = changed(0, Kind.SHORT, 2);
        x.change(0, Kind.COARSE, 5, 0);
        x.change(1, Kind.COARSE, 3, 0);
        Check.due("off by SHORT", x.off(2, 1), 27);
        Check.due("off by COARSE", x.off(2, 2), 20);
        Check.due("off of another END", x.off(1, 2), 0);
        Check.due("off by the pick", x.off(0, 4), 67);
        Check.due("off by none", x.off(0, 0), 0);
        Check.due("no END", x.off(3, 0), NONE);
        Check.due("no END", x.off(-1, 0), NONE);
        Check.due("no CHOICE", x.off(0, 3), NONE);
        Check.due("no CHOICE", x.off(0, 8), NONE);
        NearEnough y = Check.told("row r has 3 from -9 to 2;sum s of r;end s off 0 never;");
        y.change(0, Kind.SHORT, 1, 0);
        Check.errorOf(y, 0, 1, -4, 18);
        Check.due("f is the greater", y.off(0, 1), 18);
    }

    private static void measuring() {
        NearEnough x = Check.told(SMALL + "end s off 2 one;");
        x.change(0, Kind.SHORT, 1, 3);
        Check.due("measured on no SHEETS", x.measured(0, 1), 0);
        Check.due("passed on no SHEETS", x.passed(0, 1), 0);
        int[] second = {4, 7, 5, 9, 4, 0};
        for (int sheet = 0; sheet < second.length; sheet++) {
            x.sheet(sheet % 2 == 1);
            Check.fill(x, sheet, 0, 1, second[sheet]);
        }
        Check.due("measured", x.measured(0, 1), 5);
        Check.due("passed", x.passed(0, 1), 2);
        Check.fill(x, 2, 0, 1, 7);
        Check.due("a like one does not pass", x.passed(0, 1), 1);
        Check.due("measured by none", x.measured(0, 0), 0);
        Check.due("passed by none", x.passed(0, 0), 0);
        Check.due("no END", x.measured(1, 1), NONE);
        Check.due("no END", x.passed(-1, 1), NONE);
        Check.due("no CHOICE", x.measured(0, 2), NONE);
        Check.due("no CHOICE", x.passed(0, 2), NONE);
    }

    private static void means() {
        NearEnough x = Check.told(SMALL + "end s off 2 one;");
        x.change(0, Kind.SHORT, 1, 3);
        Check.due("mean without SHEETS", x.mean(0, 1, 0), NONE);
        int[] second = {4, 7, 5, 2, 4, 0};
        for (int sheet = 0; sheet < second.length; sheet++) {
            x.sheet(sheet % 2 == 1);
            Check.fill(x, sheet, 0, 1, second[sheet]);
        }
        Check.due("upper part of 22 / 6", x.mean(0, 1, 0), 11);
        Check.due("lower part", x.mean(0, 1, 1), 3);
        Check.due("upper part of none", x.mean(0, 0, 0), 0);
        Check.due("lower part of none", x.mean(0, 0, 1), 1);
        Check.due("no part", x.mean(0, 1, 2), NONE);
        Check.due("no part", x.mean(0, 1, -1), NONE);
        Check.due("no END", x.mean(1, 1, 0), NONE);
        Check.due("no CHOICE", x.mean(0, 2, 0), NONE);
    }

    private static void savingAndTicking() {
        NearEnough x = filled();
        x.change(0, Kind.SKIP, 2, 100);
        x.change(0, Kind.SHORT, 2, 20);
        x.change(1, Kind.SHORT, 4, 3);
        x.change(7, Kind.LEFT, 0, 0);
        x.change(2, Kind.LEFT, 0, 999);
        x.change(2, Kind.SHORT, 5, 999);
        Check.due("saved by none", x.saved(0), 0);
        Check.due("saved", x.saved(0b0101), 103);
        Check.due("saved by a BARRED one", x.saved(0b10110), 1022);
        Check.due("two of one STEP", x.saved(3), NONE);
        Check.due("no CHOICE", x.saved(64), NONE);
        Check.due("no CHOICE", x.saved(Integer.MIN_VALUE), NONE);
        Check.due("ticks", x.ticks(0), 5 + 5 + 2 + 5);
        Check.due("ticks by SKIP", x.ticks(1), 3 + 5 + 2 + 5);
        Check.due("ticks by SHORT", x.ticks(6), 2 + 4 + 2 + 5);
        Check.due("ticks by LEFT", x.ticks(0b011000), 5 + 5 + 0 + 4);
        Check.due("ticks by a SHORT that is none", x.ticks(0b100000), 17);
        Check.due("ticks of two of one STEP", x.ticks(3), NONE);
        Check.due("ticks of no CHOICE", x.ticks(-1), NONE);
    }

    private static void letting() {
        letNever();
        letMean();
        letOne();
        NearEnough x = changed(2, Kind.BITS, 1);
        x.change(2, Kind.BITS, 2, 0);
        Check.due("a BARRED one", x.let(1), 0);
        Check.due("none", x.let(0), 1);
        Check.due("no CHOICE", x.let(3), NONE);
        Check.due("no CHOICE", x.let(4), NONE);
    }

    private static void letNever() {
        NearEnough x = Check.told("row r has 2 from 0 to 9;sum s of r;end s off 3 never;");
        x.change(0, Kind.BITS, 2, 0);
        x.change(0, Kind.BITS, 3, 0);
        Check.due("off is just kept", x.let(1), 1);
        Check.due("off is not kept, whatever is measured", x.let(2), 0);
    }

    private static void letMean() {
        NearEnough x = Check.told(SMALL + "end s off 3 mean;");
        x.change(0, Kind.SHORT, 1, 0);
        Check.due("without SHEETS", x.let(1), 1);
        x.sheet(true);
        x.sheet(false);
        Check.fill(x, 0, 0, 0, 6);
        Check.due("6 of 6", x.let(1), 1);
        x.put(1, 0, 1, 1);
        Check.due("7 of 6", x.let(1), 0);
    }

    private static void letOne() {
        NearEnough x = Check.told(SMALL + "end s off 3 one;");
        x.change(0, Kind.SHORT, 1, 0);
        Check.due("without SHEETS", x.let(1), 1);
        for (int sheet = 0; sheet < 40; sheet++) {
            x.sheet(false);
            x.put(sheet, 0, 1, 3);
        }
        Check.due("none is more than off", x.let(1), 1);
        x.put(17, 0, 1, 4);
        Check.due("one of 40 is too many", x.let(1), 0);
    }
}
