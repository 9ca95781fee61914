/** Promises 20 to 32: BEST, FRONT, GUARDS, WORST, LED, THE PURSE, PLAN, about. */
public final class ChoosingTest {
    private static final int NONE = NearEnough.NONE;
    private static final String SMALL = "row r has 2 from 0 to 9;sum s of r;most m of r;";
    private static final String PLACED = "row r has 3 from 0 to 9;sum s of r;at a r place s;";

    private ChoosingTest() {
    }

    public static void main(String[] args) {
        bestByAllowance();
        bestOfLikeOnes();
        fronts();
        frontsOfBarredOnes();
        guards();
        turning();
        worsts();
        worstsOfTwoRows();
        leading();
        purses();
        days();
        plans();
        plansOfLikeOnes();
        plansAnew();
        abouts();
        Check.finish();
    }

    private static void bestByAllowance() {
        NearEnough x = Check.told(SMALL + "end s off 7 never;end m off 1 mean;");
        Check.due("no CHANGES", x.best(), 0);
        x.change(0, Kind.BITS, 3, 5);
        x.change(0, Kind.BITS, 4, 9);
        x.change(1, Kind.BITS, 2, 4);
        Check.due("the second is off by 15", x.best(), 5);
        x.sheet(false);
        x.put(0, 0, 0, 7);
        Check.due("7 becomes 4: 3 is more than 1", x.best(), 1);
        x.sheet(true);
        x.sheet(true);
        Check.due("3 is no more than 3 together", x.best(), 5);
        x.change(0, Kind.BITS, 1, 6);
        Check.due("another one saves more", x.best(), 12);
    }

    private static void bestOfLikeOnes() {
        NearEnough x = Check.told(SMALL + "add t s m;end t off 15 never;");
        x.change(0, Kind.BITS, 3, 3);
        x.change(1, Kind.BITS, 3, 2);
        Check.due("saves most", x.best(), 3);
        x.change(0, Kind.BITS, 4, 5);
        Check.due("the fewest CHANGES of like ones", x.best(), 4);
        NearEnough y = Check.told(SMALL);
        y.change(0, Kind.BITS, 1, 3);
        y.change(1, Kind.BITS, 1, 2);
        y.change(1, Kind.LEFT, 0, 2);
        y.change(0, Kind.LEFT, 0, 3);
        Check.due("the least number of like ones", y.best(), 3);
        NearEnough z = Check.told("row r has 2 from 0 to 9;sum s of r;most m of r;end m off 0 never;end s off 3 never;");
        z.change(1, Kind.BITS, 1, 9);
        z.change(0, Kind.BITS, 1, 0);
        z.change(0, Kind.BITS, 2, 0);
        Check.due("none, where none saves", z.best(), 0);
        z.change(0, Kind.BITS, 2, 1);
        z.change(0, Kind.BITS, 2, 1);
        Check.due("the least of two that save 1", z.best(), 8);
        NearEnough few = Check.told("row r has 2 from 0 to 9;sum s of r;most m of r;sum t of r;");
        few.change(0, Kind.LEFT, 0, 1);
        few.change(1, Kind.LEFT, 0, 2);
        few.change(2, Kind.LEFT, 0, 3);
        few.change(2, Kind.OLD, 0, 6);
        few.change(0, Kind.BITS, 1, 0);
        Check.due("1 + 2 + 6", few.best(), 0b1011);
        NearEnough fewer = Check.told("row r has 2 from 0 to 9;sum s of r;most m of r;");
        fewer.change(0, Kind.LEFT, 0, 4);
        fewer.change(1, Kind.LEFT, 0, 0);
        Check.due("one that saves nothing is left out", fewer.best(), 1);
    }

    private static void pair(NearEnough x, int end, int i, long off, long saved) {
        Check.due("OFF of pair " + i, x.pair(end, i, 0), off);
        Check.due("saved of pair " + i, x.pair(end, i, 1), saved);
    }

    private static void fronts() {
        NearEnough x = Check.told(SMALL + "add t s m;end t off 0 never;end m off 0 one;");
        Check.due("the pair of no CHANGES", x.front(0), 1);
        pair(x, 0, 0, 0, 0);
        x.change(0, Kind.BITS, 2, 4);
        x.change(0, Kind.BITS, 3, 4);
        x.change(0, Kind.BITS, 4, 9);
        x.change(1, Kind.BITS, 1, 2);
        Check.due("front", x.front(0), 6);
        pair(x, 0, 0, 0, 0);
        pair(x, 0, 1, 1, 2);
        pair(x, 0, 2, 3, 4);
        pair(x, 0, 3, 4, 6);
        pair(x, 0, 4, 15, 9);
        pair(x, 0, 5, 16, 11);
        Check.due("no more", x.pair(0, 6, 0), NONE);
        Check.due("front of m", x.front(1), 2);
        pair(x, 1, 0, 0, 9);
        pair(x, 1, 1, 1, 11);
        Check.due("front of t again", x.front(0), 6);
    }

    private static void frontsOfBarredOnes() {
        NearEnough x = Check.told(PLACED + "end a off 0 never;end s off 9 one;");
        x.change(0, Kind.BITS, 1, 7);
        x.change(1, Kind.LEFT, 0, 2);
        Check.due("front without the BARRED one", x.front(0), 2);
        pair(x, 0, 1, 5, 9);
        Check.due("front of s", x.front(1), 2);
        pair(x, 1, 0, 0, 2);
        pair(x, 1, 1, 1, 9);
        Check.due("no END", x.front(2), NONE);
        Check.due("no END", x.front(-1), NONE);
        Check.due("no END", x.pair(2, 0, 0), NONE);
        Check.due("no pair", x.pair(1, 2, 0), NONE);
        Check.due("no pair", x.pair(1, -1, 0), NONE);
        Check.due("no what", x.pair(1, 0, 2), NONE);
        Check.due("no what", x.pair(1, 0, -1), NONE);
        x.change(1, Kind.OLD, 0, 3);
        Check.due("a new CHANGE counts", x.front(1), 2);
        pair(x, 1, 0, 0, 3);
    }

    private static void guards() {
        NearEnough x = Check.told(SMALL + "end s off 0 never;");
        Check.due("no END", x.guard(1, 0, 0), NONE);
        Check.due("no END", x.guard(-1, 0, 0), NONE);
        Check.due("no STEP", x.guard(0, 2, 0), NONE);
        Check.due("no STEP", x.guard(0, -1, 0), NONE);
        Check.due("below 0", x.guard(0, 0, -1), NONE);
        Check.due("too much", x.guard(0, 0, 10000), NONE);
        Check.due("none yet", x.about(5), 0);
        Check.due("guard", x.guard(0, 0, 0), 0);
        Check.due("guard", x.guard(0, 1, 9999), 1);
        Check.due("guard", x.guard(0, 1, 9999), 2);
        Check.due("guard", x.guard(0, 1, 9999), 3);
        Check.due("a 5th", x.guard(0, 1, 9999), NONE);
        Check.due("four", x.about(5), 4);
    }

    private static void turning() {
        NearEnough x = Check.told(SMALL + "end s off 2 one;end m off 0 one;");
        x.change(0, Kind.SHORT, 1, 1);
        x.change(1, Kind.SHORT, 1, 1);
        int[] second = {2, 3, 9, 0};
        for (int sheet = 0; sheet < second.length; sheet++) {
            x.sheet(sheet == 1);
            x.put(sheet, 0, 0, 1);
            x.put(sheet, 0, 1, second[sheet]);
        }
        Check.due("through without GUARDS", x.through(0, 1), 2);
        Check.due("turned without GUARDS", x.turned(0, 1), 0);
        x.guard(0, 1, 3);
        Check.due("s is 1, m 9: 8 is more than 3", x.turned(0, 1), 1);
        Check.due("3 gets through", x.through(0, 1), 1);
        Check.due("of the other END none turns back", x.turned(1, 1), 0);
        Check.due("both are changed alike", x.turned(0, 3), 0);
        Check.due("and get through", x.through(0, 3), 2);
        Check.due("plainly: 3 1, 4 3, 10 9, 1 1", x.turned(0, 0), 0);
        x.guard(0, 1, 0);
        Check.due("plainly, now", x.turned(0, 0), 3);
        Check.due("no ERROR, nothing through", x.through(0, 0), 0);
        Check.due("a GUARD turns back whatever errs", x.turned(0, 1), 3);
        Check.due("all is caught", x.through(0, 1), 0);
        Check.due("no END", x.through(2, 0), NONE);
        Check.due("no END", x.turned(-1, 0), NONE);
        Check.due("no CHOICE", x.through(0, 4), NONE);
        Check.due("no CHOICE", x.turned(0, 4), NONE);
    }

    private static void worsts() {
        NearEnough x = Check.told("row r has 3 from -2 to 5;sum s of r;most m of r;end s off 0 never;end m off 0 never;");
        x.change(0, Kind.SHORT, 2, 0);
        x.change(1, Kind.SHORT, 1, 0);
        x.change(0, Kind.OLD, 0, 0);
        Check.due("the third is 5", x.worst(0, 1, 0), -5);
        Check.due("its bits", x.worst(0, 1, 1), 4);
        Check.due("the first is -2, another 5", x.worst(1, 2, 0), -7);
        Check.due("the least number of like ones", x.worst(1, 2, 1), 2);
        Check.due("no ERROR", x.worst(1, 1, 0), 0);
        Check.due("all the least", x.worst(1, 1, 1), 0);
        Check.due("OLD reads its own", x.worst(0, 4, 0), 0);
        x.sheet(false);
        x.sheet(false);
        Check.due("SHEETS are no matter", x.worst(0, 4, 0), 0);
        Check.due("no END", x.worst(2, 1, 0), Check.NO_ERROR);
        Check.due("no CHOICE", x.worst(0, 5, 0), Check.NO_ERROR);
        Check.due("no what", x.worst(0, 1, 2), Check.NO_ERROR);
        Check.due("no what", x.worst(0, 1, -1), Check.NO_ERROR);
        NearEnough barred = Check.told(PLACED + "end a off 0 never;");
        barred.change(0, Kind.BITS, 1, 0);
        Check.due("BARRED", barred.worst(0, 1, 0), Check.NO_ERROR);
    }

    private static void worstsOfTwoRows() {
        NearEnough x = Check.told("row r has 2 from 0 to 3;row q has 2 from 1 to 8;sum s of r;sum t of q;add u s t;"
                + "end u off 0 never;");
        x.change(0, Kind.SHORT, 1, 0);
        x.change(1, Kind.SHORT, 1, 0);
        Check.due("ROW 0 at place 1", x.worst(0, 1, 0), -3);
        Check.due("its bit", x.worst(0, 1, 1), 2);
        Check.due("ROW 1 at place 1", x.worst(0, 2, 0), -8);
        Check.due("its bit", x.worst(0, 2, 1), 8);
        Check.due("both", x.worst(0, 3, 0), -11);
        Check.due("both bits", x.worst(0, 3, 1), 10);
        NearEnough like = Check.told("row r has 2 from 3 to 3;sum s of r;end s off 0 never;");
        like.change(0, Kind.BITS, 2, 0);
        Check.due("where the least is the greatest", like.worst(0, 1, 0), -2);
        Check.due("the least bits", like.worst(0, 1, 1), 0);
    }

    private static void leading() {
        NearEnough x = Check.told(SMALL + "add t s m;end t off 0 never;");
        x.sheet(false);
        x.put(0, 0, 0, 4);
        x.put(0, 0, 1, 9);
        x.change(1, Kind.SHORT, 1, 0);
        x.change(2, Kind.BITS, 3, 0);
        x.change(0, Kind.SHORT, 1, 0);
        x.change(2, Kind.LEFT, 0, 0);
        Check.due("22 is 17 by the first", x.led(0, 0, 7, 0), -5);
        Check.due("17 is 16 by the second", x.led(0, 0, 7, 1), -1);
        Check.due("4 + 4 is 8 by the third", x.led(0, 0, 7, 2), -8);
        Check.due("the second alone: 22 is 16", x.led(0, 0, 6, 1), -6);
        Check.due("no CHANGE of the CHOICE", x.led(0, 0, 6, 0), Check.NO_ERROR);
        Check.due("no CHANGE", x.led(0, 0, 7, 4), Check.NO_ERROR);
        Check.due("no CHANGE", x.led(0, 0, 7, -1), Check.NO_ERROR);
        Check.due("no CHANGE", x.led(0, 0, 7, 32), Check.NO_ERROR);
        Check.due("no END", x.led(1, 0, 7, 0), Check.NO_ERROR);
        Check.due("no SHEET", x.led(0, 1, 7, 0), Check.NO_ERROR);
        Check.due("two of one STEP", x.led(0, 0, 10, 1), Check.NO_ERROR);
        Check.due("no CHOICE", x.led(0, 0, 16, 0), Check.NO_ERROR);
        NearEnough y = Check.told(PLACED + "end a off 0 never;end s off 0 never;");
        y.sheet(false);
        y.put(0, 0, 0, 5);
        y.change(1, Kind.BITS, 1, 0);
        y.change(0, Kind.BITS, 1, 0);
        y.change(1, Kind.LEFT, 0, 0);
        Check.due("ahead of what bars", y.led(0, 0, 3, 0), 0);
        Check.due("BARRED with it", y.led(0, 0, 3, 1), Check.NO_ERROR);
        Check.due("BARRED without it", y.led(1, 0, 6, 2), Check.NO_ERROR);
        Check.due("BARRED up to it", y.led(1, 0, 6, 1), Check.NO_ERROR);
    }

    private static void purses() {
        NearEnough x = new NearEnough();
        Check.due("below 0", x.purse(-1), false);
        Check.due("too much", x.purse(100000), false);
        Check.due("nothing done", x.about(6), 0);
        Check.due("the most", x.purse(99999), true);
        Check.due("left", x.about(6), 99999);
        Check.due("too much", x.purse(100000), false);
        Check.due("nothing done", x.about(6), 99999);
        Check.due("none", x.purse(0), true);
        Check.due("left", x.about(6), 0);
    }

    private static void days() {
        NearEnough x = Check.told(PLACED + "end s off 0 never;");
        x.change(0, Kind.SHORT, 2, 0);
        x.change(1, Kind.LEFT, 0, 0);
        x.change(0, Kind.BITS, 1, 0);
        x.sheet(true);
        x.sheet(false);
        x.put(0, 0, 2, 4);
        x.put(1, 0, 2, 9);
        Check.due("nothing to spend, nothing spent", x.day(0, 0, 0), 0);
        Check.due("turns back", x.day(0, 0, 3), -2);
        x.purse(13);
        Check.due("spends 4", x.day(0, 0, 3), 9);
        Check.due("spends all the rest", x.day(0, 1, 3), 0);
        Check.due("turns back", x.day(0, 0, 3), -2);
        Check.due("nothing spent", x.about(6), 0);
        x.purse(5);
        Check.due("9 is more than 5", x.day(0, 1, 3), -2);
        Check.due("4 is not", x.day(0, 0, 3), 1);
        Check.due("BARRED", x.day(0, 0, 1), NONE);
        Check.due("no END", x.day(1, 0, 3), NONE);
        Check.due("no SHEET", x.day(0, 2, 3), NONE);
        Check.due("no CHOICE", x.day(0, 0, 5), NONE);
        Check.due("nothing done", x.about(6), 1);
    }

    private static void plans() {
        NearEnough x = Check.told(SMALL + "end s off 0 never;");
        Check.due("no SHEETS", x.plan(0, 400), 0);
        x.change(0, Kind.SHORT, 1, 10);
        x.change(0, Kind.BITS, 2, 4);
        int[] second = {6, 2, 9};
        for (int sheet = 0; sheet < second.length; sheet++) {
            x.sheet(sheet == 1);
            x.put(sheet, 0, 1, second[sheet]);
        }
        // The ERRORS of SHORT are 6, 2, 9, those of BITS 2, 2, 1.
        int[] amounts = {0, 1, 2, 3, 5, 9, 17, 400};
        int[] saves = {0, 4, 10, 14, 18, 24, 30, 30};
        int[][] choices = {{0, 0, 0}, {0, 0, 2}, {0, 1, 0}, {0, 1, 2}, {2, 1, 2}, {1, 1, 2}, {1, 1, 1}, {1, 1, 1}};
        for (int i = 0; i < amounts.length; i++) {
            Check.due("plan for " + amounts[i], x.plan(0, amounts[i]), saves[i]);
            for (int sheet = 0; sheet < 3; sheet++) {
                Check.due("SHEET " + sheet, x.planned(0, amounts[i], sheet), choices[i][sheet]);
            }
        }
        Check.due("no END", x.plan(1, 0), NONE);
        Check.due("no END", x.planned(-1, 0, 0), NONE);
        Check.due("too much", x.plan(0, 401), NONE);
        Check.due("too much", x.planned(0, 401, 0), NONE);
        Check.due("below 0", x.plan(0, -1), NONE);
        Check.due("below 0", x.planned(0, -1, 0), NONE);
        Check.due("no SHEET", x.planned(0, 0, 3), NONE);
        Check.due("no SHEET", x.planned(0, 0, -1), NONE);
    }

    private static void plansOfLikeOnes() {
        NearEnough x = Check.told(SMALL + "end s off 0 never;");
        x.sheet(false);
        x.sheet(false);
        x.put(0, 0, 1, 3);
        x.put(1, 0, 1, 3);
        x.change(0, Kind.SHORT, 1, 5);
        x.change(0, Kind.BITS, 1, 5);
        x.change(1, Kind.LEFT, 0, 0);
        Check.due("both save 5, the least errs more", x.plan(0, 400), 10);
        Check.due("the least CHOICE", x.planned(0, 400, 0), 1);
        Check.due("the least CHOICE", x.planned(0, 400, 1), 1);
        Check.due("for 4", x.plan(0, 4), 10);
        Check.due("the least first", x.planned(0, 4, 0), 1);
        Check.due("what is left for the second", x.planned(0, 4, 1), 2);
        Check.due("for 3", x.plan(0, 3), 10);
        Check.due("the first", x.planned(0, 3, 0), 2);
        Check.due("the second", x.planned(0, 3, 1), 2);
        Check.due("for 1", x.plan(0, 1), 5);
        Check.due("the least CHOICE is none", x.planned(0, 1, 0), 0);
        Check.due("the second saves", x.planned(0, 1, 1), 2);
    }

    private static void plansAnew() {
        NearEnough x = Check.told(PLACED + "end s off 0 never;end a off 0 never;");
        x.change(0, Kind.BITS, 2, 7);
        x.sheet(false);
        x.put(0, 0, 0, 3);
        Check.due("BARRED", x.plan(0, 400), 0);
        x.change(1, Kind.LEFT, 0, 1);
        Check.due("a new CHANGE counts", x.plan(0, 400), 8);
        Check.due("its CHOICE", x.planned(0, 400, 0), 3);
        Check.due("of the other END", x.plan(1, 0), 0);
        Check.due("3 becomes 0", x.plan(0, 2), 1);
        x.put(0, 0, 0, 4);
        Check.due("a new number counts", x.plan(0, 2), 8);
        x.sheet(true);
        Check.due("a new SHEET counts", x.plan(0, 2), 16);
    }

    private static void abouts() {
        NearEnough x = Check.told("row r has 2 from 0 to 9;row q has 1 from 0 to 0;sum s of r;most m of r;sum t of q;"
                + "end s off 0 never;end m off 0 mean;");
        for (int i = 0; i < 4; i++) {
            x.sheet(false);
        }
        for (int i = 0; i < 5; i++) {
            x.change(0, Kind.BITS, 1, 1);
        }
        x.guard(0, 1, 1);
        x.purse(77);
        x.feed(0, 0, 0, 0, 0);
        int[] due = {2, 3, 2, 4, 5, 1, 77, 20};
        for (int what = 0; what < 8; what++) {
            Check.due("about " + what, x.about(what), due[what]);
        }
        Check.due("about 8", x.about(8), NONE);
        Check.due("about -1", x.about(-1), NONE);
    }
}
