/** Promises 1 to 6: a new object, the TAPE, the PROGRAM, its FAULTS and SPANS. */
public final class ReadingTest {
    private static final String ROW = "row r has 3 from 0 to 5;";
    private static final String SUM = ROW + "sum s of r;";
    private static final String WIDE = "row r has 6 from -999 to 999;sum s of r;times q s s;";

    private ReadingTest() {
    }

    public static void main(String[] args) {
        newObject();
        feeding();
        ending();
        programs();
        faultsOfTokens();
        faultsOfPlaces();
        faultsOfNames();
        faultsOfNumbers();
        faultsOfSpans();
        limits();
        faultsAsked();
        spans();
        Check.finish();
    }

    private static void newObject() {
        NearEnough x = new NearEnough();
        for (int what = 0; what < 8; what++) {
            Check.due("about at first", x.about(what), 0);
        }
        Check.due("fault at first", x.fault(0), 0);
        Check.due("place at first", x.fault(1), NearEnough.NONE);
        Check.due("best at first", x.best(), 0);
        Check.due("let at first", x.let(0), 1);
        Check.due("no END", x.front(0), NearEnough.NONE);
        Check.due("change of no STEP", x.change(0, 4, 0, 0), NearEnough.NONE);
        Check.due("sheet of no ROWS", x.sheet(false), 0);
        Check.due("put into no ROW", x.put(0, 0, 0, 0), false);
        Check.due("value of no STEP", x.value(0, 0, 0), NearEnough.NONE);
    }

    private static void feeding() {
        NearEnough x = new NearEnough();
        for (int i = 1; i <= 50; i++) {
            Check.due("feed", x.feed(-1, 0, 1, Integer.MIN_VALUE, 5), 20 * i);
        }
        Check.due("feed beyond 1,000", x.feed(0, 0, 0, 0, 0), NearEnough.NONE);
        Check.due("nothing came", x.about(7), 1000);
        Check.due("end at 981", x.end(981), 981);
        Check.due("feed of one too many", x.feed(0, 0, 0, 0, 0), NearEnough.NONE);
        Check.due("end at 980", x.end(980), 980);
        Check.due("feed that just fits", x.feed(0, 0, 0, 0, 0), 1000);
    }

    private static void ending() {
        NearEnough x = Check.taped("sum s of r;");
        Check.due("end below 0", x.end(-1), NearEnough.NONE);
        Check.due("end beyond", x.end(12), NearEnough.NONE);
        Check.due("nothing done", x.about(7), 11);
        Check.due("end where it is", x.end(11), 11);
        Check.due("end at 0", x.end(0), 0);
        Check.due("an empty TAPE is a PROGRAM", x.program(), 0);
    }

    private static void programs() {
        Check.good(0, "");
        Check.good(0, " \n ");
        Check.good(0, ROW);
        Check.good(1, SUM);
        Check.good(1, "row\nabcdefgh has3 from-5 to-5;sum s of abcdefgh;");
        Check.good(1, "row r has 0003 from - 0 to 05;sum s of r;");
        Check.good(5, "row a has 1 from 0 to 0;sum aa of a;sum aaa of a;sum abcdefgh of a;sum bbcdefgh of a;sum z of a;");
        Check.good(2, "row r has 1 from 0 to 0;sum ends of r;most rowa of r;");
        NearEnough x = Check.told(SUM + "end s off 1 one;");
        x.sheet(true);
        x.change(0, 1, 1, 1);
        x.guard(0, 0, 1);
        x.purse(9);
        Check.tape(x, Check.bytes("sum"));
        Check.due("program with a FAULT", x.program(), NearEnough.NONE);
        int[] stays = {1, 1, 1, 1, 1, 1, 9, 3};
        for (int what = 0; what < 8; what++) {
            Check.due("all stays, about " + what, x.about(what), stays[what]);
        }
        Check.due("SPAN stays", x.span(0, true), 15);
        x.end(0);
        Check.tape(x, Check.bytes(ROW + "most m of r; sum s of r;"));
        Check.due("another program", x.program(), 2);
        int[] anew = {1, 2, 0, 0, 0, 0, 0, 0};
        for (int what = 0; what < 8; what++) {
            Check.due("all is new, about " + what, x.about(what), anew[what]);
        }
        Check.due("a CHOICE of none", x.saved(1), NearEnough.NONE);
    }

    private static void faultsOfTokens() {
        Check.fault(1, "|R");
        Check.fault(1, "row r|\thas");
        Check.fault(1, "row |" + (char) 233 + "r has");
        Check.fault(1, "row r |" + (char) 0);
        Check.fault(1, "row |abcdefghi has 3");
        Check.fault(1, "row r has |3from 0 to 5;");
        Check.fault(1, "row r has |3a");
        Check.fault(1, "row r has |3z");
        Check.fault(1, "row r has |12345 from 0 to 5;");
        Check.fault(1, "row r has |00003 from 0 to 5;");
        Check.fault(1, "row r has |9x from 0 to 5;");
        Check.fault(1, "row r has 3 from -|5x to 5;");
        Check.fault(1, SUM + "end s off |10000 one;");
        Check.fault(1, SUM + "|?");
    }

    private static void faultsOfPlaces() {
        Check.fault(2, "|x");
        Check.fault(2, "|;");
        Check.fault(2, "|5");
        Check.fault(2, "|-");
        Check.fault(2, "|has");
        Check.fault(2, "row |row has 3");
        Check.fault(2, "row |one has 3");
        Check.fault(2, "row |place has 3");
        Check.fault(2, "row |5");
        Check.fault(2, "row r |5");
        Check.fault(2, "row r |of");
        Check.fault(2, "row r has |x");
        Check.fault(2, "row r has |-3");
        Check.fault(2, "row r has 3 from -|-5");
        Check.fault(2, "row r has 3 from - |to");
        Check.fault(2, "row r has 3 from 0 to 5|");
        Check.fault(2, "row r has 3 from 0 to 5 \n|");
        Check.fault(2, "row|");
        Check.fault(2, ROW + "|rowr");
        Check.fault(2, ROW.replace(";", " |row"));
        Check.fault(2, SUM + "end s off |-1 one;");
        Check.fault(2, SUM + "end s off 1 |two;");
        Check.fault(2, SUM + "end s off 1 |;");
        Check.fault(2, SUM + "end s off 1 |off;");
        Check.fault(2, SUM + "add t s s |s;");
        Check.fault(2, SUM + "scale t s by 1 over |-1;");
        Check.fault(2, SUM + "pick p s s |under s");
        Check.fault(2, SUM + "pick p s s if s |if");
        Check.fault(2, SUM + "at a r |of s");
        Check.fault(2, SUM + "sum |sum of r;");
    }

    private static void faultsOfNames() {
        Check.fault(3, ROW + "row |r has 9");
        Check.fault(3, ROW + "sum |r of r;");
        Check.fault(3, SUM + "most |s of r;");
        Check.fault(3, SUM + "row |s has");
        Check.fault(3, SUM + "end s off 1 one; end |s off 2 one;");
        Check.fault(5, "sum s of |r;");
        Check.fault(5, SUM + "sum t of |s;");
        Check.fault(5, SUM + "add t |r s;");
        Check.fault(5, SUM + "add t s |t;");
        Check.fault(5, SUM + "at t |s place s;");
        Check.fault(5, SUM + "at t r place |r;");
        Check.fault(5, SUM + "scale t |u by 1 over 0;");
        Check.fault(5, SUM + "pick p |x s if s under s;");
        Check.fault(5, SUM + "pick p s |x if s under s;");
        Check.fault(5, SUM + "pick p s s if |x under s;");
        Check.fault(5, SUM + "pick p s s if s under |x;");
        Check.fault(5, SUM + "end |r off 1 one;");
        Check.fault(5, SUM + "end |t off 1 one;");
    }

    private static void faultsOfNumbers() {
        Check.fault(4, "row r has |7");
        Check.fault(4, "row r has |0 from");
        Check.fault(4, "row r has 3 from |1000 to 5;");
        Check.fault(4, "row r has 3 from |-1000 to 5;");
        Check.fault(4, "row r has 3 from |- 1000 to 5;");
        Check.fault(4, "row r has 3 from 5 to |4;");
        Check.fault(4, "row r has 3 from -5 to |-6;");
        Check.fault(4, "row r has 3 from -5 to |1000;");
        Check.fault(4, SUM + "scale t s by |100 over 1;");
        Check.fault(4, SUM + "scale t s by |-100 over 1;");
        Check.fault(4, SUM + "scale t s by -99 over |0;");
        Check.fault(4, SUM + "scale t s by 99 over |100;");
        Check.good(0, "row r has 6 from -999 to -999; row q has 1 from 999 to 999;");
        Check.good(2, SUM + "scale t s by -99 over 99; end t off 9999 mean; end s off 0 never;");
    }

    private static void faultsOfSpans() {
        Check.fault(7, WIDE + "times |z q q;");
        Check.fault(7, WIDE + "times |z q q");
        Check.fault(7, WIDE + "times |z q q ?");
        Check.fault(7, WIDE + "scale |z q by -99 over 1;");
        Check.fault(4, WIDE + "scale z q by 99 over |0;");
        Check.fault(5, WIDE + "times z q |z;");
        Check.fault(3, WIDE + "times |q q q;");
        String edge = "row r has 1 from 0 to 100;sum a of r;times b a a;times c b b;";
        Check.good(5, edge + "scale d c by 10 over 1;scale e c by -10 over 1;");
        Check.fault(7, edge + "scale d c by 10 over 1;add |f d a;");
        Check.fault(7, edge + "scale e c by -10 over 1;less |f e a;");
        Check.fault(7, edge + "scale |d c by 11 over 1;");
    }

    private static void limits() {
        String one = "row a has 1 from 0 to 0;row b has 1 from 0 to 0;";
        Check.good(0, one);
        Check.fault(2, one + "|row c has 1 from 0 to 0;");
        StringBuilder steps = new StringBuilder(ROW);
        for (int i = 0; i < 12; i++) {
            steps.append("sum s").append((char) ('a' + i)).append(" of r;");
        }
        Check.good(12, steps.toString());
        Check.fault(2, steps + "|most m of r;");
        String ends = steps + "end sa off 1 one;end sb off 1 one;end sc off 1 one;end sd off 1 one;";
        Check.good(12, ends);
        Check.fault(2, ends + "|end se off 1 one;");
        NearEnough x = Check.told(ends);
        Check.due("ENDS", x.about(2), 4);
        Check.due("STEPS", x.about(1), 12);
    }

    private static void faultsAsked() {
        NearEnough x = Check.taped("row r has 7");
        x.program();
        Check.due("fault 2", x.fault(2), NearEnough.NONE);
        Check.due("fault -1", x.fault(-1), NearEnough.NONE);
        x.end(0);
        x.program();
        Check.due("the latest has none", x.fault(0), 0);
        Check.due("nor a place", x.fault(1), NearEnough.NONE);
    }

    private static void spans() {
        NearEnough x = Check.told("row r has 3 from -2 to 5;row q has 2 from -7 to -3;sum s of r;sum t of q;"
                + "most m of q;at a r place t;add b s t;less c s t;times d s t;scale e s by -3 over 2;"
                + "scale f s by 1 over 4;pick g a m if s under t;times h s s;");
        Check.spanOf(x, 0, -6, 15);
        Check.spanOf(x, 1, -14, -6);
        Check.spanOf(x, 2, -7, -3);
        Check.spanOf(x, 3, -2, 5);
        Check.spanOf(x, 4, -20, 9);
        Check.spanOf(x, 5, 0, 29);
        Check.spanOf(x, 6, -210, 84);
        Check.spanOf(x, 7, -22, 9);
        Check.spanOf(x, 8, -1, 3);
        Check.spanOf(x, 9, -7, 5);
        Check.spanOf(x, 10, -90, 225);
        Check.spanOf(x, 11, 0, 0);
        Check.spanOf(x, -1, 0, 0);
        Check.spanOf(x, Integer.MAX_VALUE, 0, 0);
    }
}
