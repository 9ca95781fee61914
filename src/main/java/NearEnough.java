import java.util.Arrays;

/**
 * A program in a text that may err by told amounts, and the changes that make it cheaper.
 * The words in capitals are those of the document, DOC.md.
 */
public final class NearEnough {
    public static final int NONE = -1;

    private static final long NO_ERROR = -1000000000000L;
    private static final long FARTHEST = 1000000000L;
    private static final int MOST_BYTES = 1000;
    private static final int FED_BYTES = 20;
    private static final int MOST_ROWS = 2;
    private static final int MOST_PLACES = 12;
    private static final int MOST_STEPS = 12;
    private static final int MOST_ENDS = 4;
    private static final int MOST_SHEETS = 40;
    private static final int MOST_CHANGES = 12;
    private static final int CHOICE_BITS = MOST_CHANGES;
    private static final int MOST_CHOICES = 1 << CHOICE_BITS;
    private static final int MOST_GUARDS = 4;
    private static final int MOST_SAVES = 999;
    private static final int MOST_WITHIN = 9999;
    private static final int MOST_PURSE = 99999;
    private static final int MOST_PLANNED = 400;

    private final byte[] tape = new byte[MOST_BYTES];
    private int bytes = 0;
    private int faultNumber = 0;
    private int faultPlace = NONE;
    private final Program told = new Program();
    private final Sheets sheets = new Sheets();
    private final Changes changes = new Changes();
    private final Shown shown = new Shown(told, changes);
    private final Worker worker = new Worker(told, sheets, changes);
    private final int[] guardEnd = new int[MOST_GUARDS];
    private final int[] guardStep = new int[MOST_GUARDS];
    private final int[] guardWithin = new int[MOST_GUARDS];
    private int guards = 0;
    private int left = 0;
    private final long[] tally = new long[MOST_ENDS];
    // These two are large, so they are made only for an object that is asked for them.
    private Front edge = null;
    private Plan planner = null;

    public NearEnough() {
    }

    public int feed(int a, int b, int c, int d, int e) {
        if (bytes + FED_BYTES > MOST_BYTES) {
            return NONE;
        }
        append(a);
        append(b);
        append(c);
        append(d);
        append(e);
        return bytes;
    }

    private void append(int four) {
        for (int shift = 24; shift >= 0 && bytes < MOST_BYTES; shift -= 8) {
            tape[bytes] = (byte) (four >>> shift);
            bytes++;
        }
    }

    public int end(int n) {
        if (n < 0 || n > bytes) {
            return NONE;
        }
        bytes = n;
        return n;
    }

    public int program() {
        Reader reader = new Reader(tape, bytes);
        reader.readAll();
        faultNumber = reader.fault;
        faultPlace = reader.faultPlace;
        if (faultNumber != 0) {
            return NONE;
        }
        told.become(reader.told);
        bytes = 0;
        sheets.count = 0;
        changes.clear();
        guards = 0;
        left = 0;
        forgetFront();
        forgetPlan();
        return told.stepCount;
    }

    private void forgetFront() {
        if (edge != null) {
            edge.forget();
        }
    }

    private void forgetPlan() {
        if (planner != null) {
            planner.forget();
        }
    }

    public int fault(int what) {
        if (what == 0) {
            return faultNumber;
        }
        return what == 1 ? faultPlace : NONE;
    }

    public int span(int step, boolean high) {
        if (!told.hasStep(step)) {
            return 0;
        }
        return (int) (high ? told.steps[step].high : told.steps[step].low);
    }

    public int sheet(boolean kept) {
        if (sheets.count >= MOST_SHEETS) {
            return NONE;
        }
        int sheet = sheets.count;
        sheets.kept[sheet] = kept;
        sheets.lay(sheet, 0, told);
        sheets.count = sheet + 1;
        worker.workPlain(sheet, lastStep());
        forgetPlan();
        return sheet;
    }

    public boolean put(int sheet, int row, int place, int number) {
        if (!sheets.has(sheet) || row < 0 || row >= told.rowCount) {
            return false;
        }
        Row its = told.rows[row];
        if (place < 0 || place >= its.count || number < its.low || number > its.high) {
            return false;
        }
        sheets.numbers[sheet * MOST_PLACES + its.first + place] = number;
        worker.workPlain(sheet, lastStep());
        forgetPlan();
        return true;
    }

    public int change(int step, int kind, int n, int saves) {
        if (!told.hasStep(step) || saves < 0 || saves > MOST_SAVES) {
            return NONE;
        }
        if (changes.count >= MOST_CHANGES || !Changes.fits(told.steps[step].kind, kind, n)) {
            return NONE;
        }
        forgetFront();
        forgetPlan();
        return changes.add(step, kind, n, saves);
    }

    /** Takes a CHOICE; true if it can be and is not BARRED. */
    private boolean stands(int choice) {
        return changes.take(choice) && shown.show(0) == NONE;
    }

    private int lastStep() {
        return told.stepCount - 1;
    }

    public long value(int step, int sheet, int choice) {
        if (!told.hasStep(step) || !sheets.has(sheet) || !stands(choice)) {
            return NONE;
        }
        worker.workChanged(sheet, 0, step);
        return worker.changed[sheet * MOST_STEPS + step];
    }

    public long error(int step, int choice, boolean high) {
        if (!told.hasStep(step) || !stands(choice)) {
            return NO_ERROR;
        }
        return high ? shown.high[step] : shown.low[step];
    }

    public long off(int end, int choice) {
        if (!told.hasEnd(end) || !stands(choice)) {
            return NONE;
        }
        return shown.farOff(told.endStep[end]);
    }

    public int barred(int choice) {
        return changes.take(choice) ? shown.show(0) : -2;
    }

    /** The ERROR of an END on a SHEET by the CHOICE that is taken. */
    private long errorOn(int end, int sheet) {
        int step = told.endStep[end];
        worker.workChanged(sheet, 0, step);
        return worker.errorAt(sheet, step);
    }

    private long greatestWrong(int end) {
        long greatest = 0;
        for (int sheet = 0; sheet < sheets.count; sheet++) {
            if (!sheets.kept[sheet]) {
                greatest = Math.max(greatest, Math.abs(errorOn(end, sheet)));
            }
        }
        return greatest;
    }

    public long measured(int end, int choice) {
        if (!told.hasEnd(end) || !stands(choice)) {
            return NONE;
        }
        return greatestWrong(end);
    }

    public int passed(int end, int choice) {
        if (!told.hasEnd(end) || !stands(choice)) {
            return NONE;
        }
        long greatest = greatestWrong(end);
        int passing = 0;
        for (int sheet = 0; sheet < sheets.count; sheet++) {
            if (sheets.kept[sheet] && Math.abs(errorOn(end, sheet)) > greatest) {
                passing++;
            }
        }
        return passing;
    }

    public long mean(int end, int choice, int part) {
        if (!told.hasEnd(end) || part < 0 || part > 1 || sheets.count == 0 || !stands(choice)) {
            return NONE;
        }
        long total = 0;
        for (int sheet = 0; sheet < sheets.count; sheet++) {
            total += Math.abs(errorOn(end, sheet));
        }
        long common = Math.max(1, greatestDivisor(total, sheets.count));
        return (part == 0 ? total : sheets.count) / common;
    }

    private static long greatestDivisor(long one, long other) {
        long a = one;
        long b = other;
        // Each round at least halves the product, so 128 rounds are more than two longs can need.
        for (int round = 0; round < 128 && b != 0; round++) {
            long rest = a % b;
            a = b;
            b = rest;
        }
        return a;
    }

    public int saved(int choice) {
        return changes.take(choice) ? changes.savedBy(choice) : NONE;
    }

    public int ticks(int choice) {
        if (!changes.take(choice)) {
            return NONE;
        }
        int total = 0;
        for (int step = 0; step < told.stepCount; step++) {
            total += ticksOf(step);
        }
        return total;
    }

    private int ticksOf(int step) {
        Step its = told.steps[step];
        if (changes.kindAt(step) == Changes.LEFT) {
            return 0;
        }
        if (its.row == null || its.kind == Step.AT) {
            return 1;
        }
        return changes.takes(step, its.row.count);
    }

    public int let(int choice) {
        if (!changes.take(choice)) {
            return NONE;
        }
        return shown.show(0) == NONE && isLet() ? 1 : 0;
    }

    /** Whether the CHOICE that is taken and shown, and is not BARRED, is LET. */
    private boolean isLet() {
        boolean asksSheets = false;
        for (int end = 0; end < told.endCount; end++) {
            if (told.endKind[end] != Program.NEVER) {
                asksSheets = true;
            } else if (shown.farOff(told.endStep[end]) > told.endOff[end]) {
                return false;
            }
        }
        return !asksSheets || isLetOnSheets();
    }

    private boolean isLetOnSheets() {
        Arrays.fill(tally, 0L);
        for (int sheet = 0; sheet < sheets.count; sheet++) {
            worker.workChanged(sheet, 0, lastStep());
            for (int end = 0; end < told.endCount; end++) {
                tally[end] += counted(end, Math.abs(worker.errorAt(sheet, told.endStep[end])));
                // What is counted never falls, so the first excess decides.
                if (tally[end] > allowance(end)) {
                    return false;
                }
            }
        }
        return true;
    }

    private long counted(int end, long wrong) {
        if (told.endKind[end] == Program.MEAN) {
            return wrong;
        }
        return told.endKind[end] == Program.ONE && wrong > told.endOff[end] ? 100 : 0;
    }

    private long allowance(int end) {
        return told.endKind[end] == Program.MEAN ? (long) told.endOff[end] * sheets.count : sheets.count;
    }

    public int best() {
        int found = 0;
        int foundSaves = 0;
        shown.restart();
        for (int turn = 0; turn < MOST_CHOICES && shown.next(); turn++) {
            int saves = changes.savedBy(changes.bits);
            if (isBetter(saves, changes.bits, foundSaves, found) && isLet()) {
                found = changes.bits;
                foundSaves = saves;
            }
        }
        return found;
    }

    private static boolean isBetter(int saves, int choice, int foundSaves, int found) {
        if (saves != foundSaves) {
            return saves > foundSaves;
        }
        int size = Integer.bitCount(choice);
        int foundSize = Integer.bitCount(found);
        return size != foundSize ? size < foundSize : choice < found;
    }

    private Front madeFront() {
        if (edge == null) {
            edge = new Front(told, changes, shown);
        }
        return edge;
    }

    public int front(int end) {
        if (!told.hasEnd(end)) {
            return NONE;
        }
        Front its = madeFront();
        its.gather(end);
        return its.count;
    }

    public long pair(int end, int i, int what) {
        if (!told.hasEnd(end) || i < 0 || what < 0 || what > 1) {
            return NONE;
        }
        Front its = madeFront();
        its.gather(end);
        if (i >= its.count) {
            return NONE;
        }
        return what == 0 ? its.offs[i] : its.saves[i];
    }

    public int guard(int end, int step, int within) {
        if (!told.hasEnd(end) || !told.hasStep(step) || within < 0 || within > MOST_WITHIN) {
            return NONE;
        }
        if (guards >= MOST_GUARDS) {
            return NONE;
        }
        guardEnd[guards] = end;
        guardStep[guards] = step;
        guardWithin[guards] = within;
        guards++;
        return guards - 1;
    }

    /** Whether a GUARD of an END turns back on a SHEET that is worked by the CHOICE at hand. */
    private boolean turnsBack(int end, int sheet) {
        int base = sheet * MOST_STEPS;
        long answer = worker.changed[base + told.endStep[end]];
        for (int guard = 0; guard < guards; guard++) {
            long apart = Math.abs(answer - worker.changed[base + guardStep[guard]]);
            if (guardEnd[guard] == end && apart > guardWithin[guard]) {
                return true;
            }
        }
        return false;
    }

    public int through(int end, int choice) {
        if (!told.hasEnd(end) || !stands(choice)) {
            return NONE;
        }
        int count = 0;
        for (int sheet = 0; sheet < sheets.count; sheet++) {
            worker.workChanged(sheet, 0, lastStep());
            long wrong = Math.abs(worker.errorAt(sheet, told.endStep[end]));
            if (wrong > told.endOff[end] && !turnsBack(end, sheet)) {
                count++;
            }
        }
        return count;
    }

    public int turned(int end, int choice) {
        if (!told.hasEnd(end) || !stands(choice)) {
            return NONE;
        }
        int count = 0;
        for (int sheet = 0; sheet < sheets.count; sheet++) {
            worker.workChanged(sheet, 0, lastStep());
            if (turnsBack(end, sheet)) {
                count++;
            }
        }
        return count;
    }

    public long worst(int end, int choice, int what) {
        if (!told.hasEnd(end) || what < 0 || what > 1 || !stands(choice)) {
            return NO_ERROR;
        }
        long worst = 0;
        int worstBits = 0;
        int kinds = 1 << told.placeCount();
        for (int bits = 0; bits < kinds; bits++) {
            long error = errorByBits(end, bits);
            if (Math.abs(error) > Math.abs(worst)) {
                worst = error;
                worstBits = bits;
            }
        }
        return what == 0 ? worst : worstBits;
    }

    private long errorByBits(int end, int bits) {
        sheets.lay(Sheets.WORST, bits, told);
        worker.workPlain(Sheets.WORST, told.endStep[end]);
        return errorOn(end, Sheets.WORST);
    }

    public long led(int end, int sheet, int choice, int change) {
        if (!told.hasEnd(end) || !sheets.has(sheet) || !changes.take(choice)) {
            return NO_ERROR;
        }
        if (change < 0 || change >= changes.count || (choice >> change & 1) == 0) {
            return NO_ERROR;
        }
        int ahead = choice & ((1 << change) - 1);
        if (!stands(ahead)) {
            return NO_ERROR;
        }
        long without = errorOn(end, sheet);
        return stands(ahead | 1 << change) ? errorOn(end, sheet) - without : NO_ERROR;
    }

    public boolean purse(int much) {
        if (much < 0 || much > MOST_PURSE) {
            return false;
        }
        left = much;
        return true;
    }

    public int day(int end, int sheet, int choice) {
        if (!told.hasEnd(end) || !sheets.has(sheet) || !stands(choice)) {
            return NONE;
        }
        long spent = Math.abs(errorOn(end, sheet));
        if (spent > left) {
            return -2;
        }
        left -= (int) spent;
        return left;
    }

    private Plan madePlan() {
        if (planner == null) {
            planner = new Plan(told, sheets, changes, shown, worker);
        }
        return planner;
    }

    private boolean canPlan(int end, int much) {
        return told.hasEnd(end) && much >= 0 && much <= MOST_PLANNED;
    }

    public int plan(int end, int much) {
        if (!canPlan(end, much)) {
            return NONE;
        }
        Plan its = madePlan();
        its.prepare(end);
        return its.savesFor(much);
    }

    public int planned(int end, int much, int sheet) {
        if (!canPlan(end, much) || !sheets.has(sheet)) {
            return NONE;
        }
        Plan its = madePlan();
        its.prepare(end);
        return its.choiceFor(much, sheet);
    }

    public int about(int what) {
        switch (what) {
            case 0: return told.rowCount;
            case 1: return told.stepCount;
            case 2: return told.endCount;
            case 3: return sheets.count;
            case 4: return changes.count;
            case 5: return guards;
            case 6: return left;
            case 7: return bytes;
            default: return NONE;
        }
    }

    /** The greatest number not above one that a unit (1 or more) divides. */
    private static long floored(long number, int unit) {
        return unit <= 1 ? number : Math.floorDiv(number, (long) unit) * unit;
    }

    /** A ROW: how many numbers it has, what they may be, and where they begin in a SHEET. */
    private static final class Row {
        final long name;
        final int count;
        final int low;
        final int high;
        final int first;

        Row(long name, int count, int low, int high, int first) {
            this.name = name;
            this.count = count;
            this.low = low;
            this.high = high;
            this.first = first;
        }
    }

    /** A STEP: what it works on, and its SPAN. */
    private static final class Step {
        static final int SUM = 0;
        static final int MOST = 1;
        static final int ADD = 2;
        static final int LESS = 3;
        static final int TIMES = 4;
        static final int SCALE = 5;
        static final int AT = 6;
        static final int PICK = 7;

        final int kind;
        final long name;
        Row row = null;
        int a = 0;
        int b = 0;
        int under = 0;
        int other = 0;
        int by = 0;
        int over = 1;
        long low = 0;
        long high = 0;

        Step(int kind, long name) {
            this.kind = kind;
            this.name = name;
        }

        void spread(long one, long another) {
            low = Math.min(one, another);
            high = Math.max(one, another);
        }

        long middle() {
            return Math.floorDiv(low + high, 2L);
        }

        long scaled(long number) {
            return over == 0 ? 0 : number * by / over;
        }
    }

    /** What a text tells: ROWS, STEPS and ENDS. */
    private static final class Program {
        static final int NEVER = 0;
        static final int MEAN = 1;
        static final int ONE = 2;

        final Row[] rows = new Row[MOST_ROWS];
        final Step[] steps = new Step[MOST_STEPS];
        final int[] endStep = new int[MOST_ENDS];
        final int[] endOff = new int[MOST_ENDS];
        final int[] endKind = new int[MOST_ENDS];
        int rowCount = 0;
        int stepCount = 0;
        int endCount = 0;

        void become(Program read) {
            rowCount = read.rowCount;
            stepCount = read.stepCount;
            endCount = read.endCount;
            for (int row = 0; row < MOST_ROWS; row++) {
                rows[row] = read.rows[row];
            }
            for (int step = 0; step < MOST_STEPS; step++) {
                steps[step] = read.steps[step];
            }
            System.arraycopy(read.endStep, 0, endStep, 0, MOST_ENDS);
            System.arraycopy(read.endOff, 0, endOff, 0, MOST_ENDS);
            System.arraycopy(read.endKind, 0, endKind, 0, MOST_ENDS);
        }

        boolean hasStep(int step) {
            return step >= 0 && step < stepCount;
        }

        boolean hasEnd(int end) {
            return end >= 0 && end < endCount;
        }

        boolean hasEndOf(int step) {
            for (int end = 0; end < endCount; end++) {
                if (endStep[end] == step) {
                    return true;
                }
            }
            return false;
        }

        int placeCount() {
            int places = 0;
            for (int row = 0; row < rowCount; row++) {
                places += rows[row].count;
            }
            return places;
        }

        Row rowNamed(long name) {
            for (int row = 0; row < rowCount; row++) {
                if (rows[row].name == name) {
                    return rows[row];
                }
            }
            return null;
        }

        int stepNamed(long name) {
            for (int step = 0; step < stepCount; step++) {
                if (steps[step].name == name) {
                    return step;
                }
            }
            return NONE;
        }

        void addRow(long name, int count, int low, int high) {
            if (rowCount < MOST_ROWS) {
                rows[rowCount] = new Row(name, count, low, high, placeCount());
                rowCount++;
            }
        }

        void addStep(Step step) {
            if (stepCount < MOST_STEPS) {
                steps[stepCount] = step;
                stepCount++;
            }
        }

        void addEnd(int step, int off, int kind) {
            if (endCount < MOST_ENDS) {
                endStep[endCount] = step;
                endOff[endCount] = off;
                endKind[endCount] = kind;
                endCount++;
            }
        }
    }

    /** The TOKENS of a text, one at a time. */
    private static final class Scanner {
        static final int NO_TOKEN = 0;
        static final int WORD = 1;
        static final int NUMBER = 2;
        static final int SEMICOLON = 3;
        static final int MINUS = 4;
        static final int TEXT_END = 5;
        private static final int LONGEST_WORD = 8;
        private static final int LONGEST_NUMBER = 4;

        private final byte[] text;
        private final int length;
        private int next = 0;
        int kind = NO_TOKEN;
        int place = 0;
        long word = 0;
        int number = 0;

        Scanner(byte[] text, int length) {
            this.text = text;
            this.length = Math.min(length, text.length);
        }

        void advance() {
            while (next < length && (text[next] == ' ' || text[next] == '\n')) {
                next++;
            }
            place = next;
            if (next >= length) {
                kind = TEXT_END;
            } else if (text[next] >= 'a' && text[next] <= 'z') {
                scanWord();
            } else if (text[next] >= '0' && text[next] <= '9') {
                scanNumber();
            } else {
                scanSign();
            }
        }

        private void scanWord() {
            word = 0;
            while (next < length && text[next] >= 'a' && text[next] <= 'z') {
                // Eight letters of five bits fit a long, so that no text has to be made for a NAME.
                word = word << 5 | text[next] - 'a' + 1;
                next++;
            }
            kind = next - place <= LONGEST_WORD ? WORD : NO_TOKEN;
        }

        private void scanNumber() {
            number = 0;
            while (next < length && text[next] >= '0' && text[next] <= '9') {
                number = number * 10 + (text[next] - '0');
                next++;
            }
            boolean letterBehind = next < length && text[next] >= 'a' && text[next] <= 'z';
            kind = next - place <= LONGEST_NUMBER && !letterBehind ? NUMBER : NO_TOKEN;
        }

        private void scanSign() {
            kind = text[next] == ';' ? SEMICOLON : text[next] == '-' ? MINUS : NO_TOKEN;
            next++;
        }

        /** Whether the word at hand is one of those in a text, where each ends with a blank. */
        boolean isOneOf(String words) {
            int size = next - place;
            int letters = 0;
            boolean fits = true;
            for (int i = 0; i < words.length(); i++) {
                if (words.charAt(i) != ' ') {
                    fits = fits && letters < size && text[place + letters] == words.charAt(i);
                    letters++;
                } else if (fits && letters == size) {
                    return true;
                } else {
                    letters = 0;
                    fits = true;
                }
            }
            return false;
        }
    }

    /** Reads a PROGRAM from a text, up to its first FAULT. */
    private static final class Reader {
        private static final String OWN_WORDS =
                "row has from to sum of most add less times scale by over at place pick if under end off never mean one ";

        private final Scanner scanner;
        final Program told = new Program();
        int fault = 0;
        int faultPlace = NONE;

        Reader(byte[] text, int length) {
            scanner = new Scanner(text, length);
        }

        void readAll() {
            scanner.advance();
            for (int line = 0; line < MOST_BYTES && fault == 0 && scanner.kind != Scanner.TEXT_END; line++) {
                if (!expects(Scanner.WORD)) {
                    return;
                }
                if (scanner.isOneOf("row ")) {
                    readRow();
                } else if (scanner.isOneOf("end ")) {
                    readEnd();
                } else {
                    readStep();
                }
            }
        }

        private void refuse(int number, int place) {
            if (fault == 0) {
                fault = number;
                faultPlace = place;
            }
        }

        /** Whether the TOKEN at hand is of a kind; a FAULT if not. */
        private boolean expects(int kind) {
            if (fault == 0 && scanner.kind != kind) {
                fault = scanner.kind == Scanner.NO_TOKEN ? 1 : 2;
                faultPlace = scanner.place;
            }
            return fault == 0;
        }

        /** Goes on behind the TOKEN at hand, if it can stand there. */
        private void pass(boolean canStand) {
            if (canStand) {
                scanner.advance();
            } else {
                refuse(2, scanner.place);
            }
        }

        private void needWord(String word) {
            if (expects(Scanner.WORD)) {
                pass(scanner.isOneOf(word));
            }
        }

        private void needSemicolon() {
            if (expects(Scanner.SEMICOLON)) {
                scanner.advance();
            }
        }

        private int needNumber(int least, int greatest, boolean mayHaveSign) {
            int place = scanner.place;
            boolean negative = mayHaveSign && fault == 0 && scanner.kind == Scanner.MINUS;
            if (negative) {
                scanner.advance();
            }
            if (!expects(Scanner.NUMBER)) {
                return 0;
            }
            int number = negative ? -scanner.number : scanner.number;
            if (number < least || number > greatest) {
                refuse(4, place);
                return 0;
            }
            scanner.advance();
            return number;
        }

        /** Whether a NAME is at hand; a FAULT if not. */
        private boolean expectsName() {
            if (expects(Scanner.WORD) && scanner.isOneOf(OWN_WORDS)) {
                refuse(2, scanner.place);
            }
            return fault == 0;
        }

        private long needNewName() {
            if (!expectsName()) {
                return 0;
            }
            long name = scanner.word;
            if (told.rowNamed(name) != null || told.stepNamed(name) != NONE) {
                refuse(3, scanner.place);
                return 0;
            }
            scanner.advance();
            return name;
        }

        private Row needRow() {
            if (!expectsName()) {
                return null;
            }
            Row row = told.rowNamed(scanner.word);
            if (row == null) {
                refuse(5, scanner.place);
            } else {
                scanner.advance();
            }
            return row;
        }

        private int needStep() {
            if (!expectsName()) {
                return 0;
            }
            int step = told.stepNamed(scanner.word);
            if (step == NONE) {
                refuse(5, scanner.place);
                return 0;
            }
            scanner.advance();
            return step;
        }

        private void readRow() {
            pass(told.rowCount < MOST_ROWS);
            long name = needNewName();
            needWord("has ");
            int count = needNumber(1, 6, false);
            needWord("from ");
            int low = needNumber(-999, 999, true);
            needWord("to ");
            int high = needNumber(low, 999, true);
            needSemicolon();
            if (fault == 0) {
                told.addRow(name, count, low, high);
            }
        }

        private void readEnd() {
            pass(told.endCount < MOST_ENDS);
            int place = scanner.place;
            int step = needStep();
            if (fault == 0 && told.hasEndOf(step)) {
                refuse(3, place);
            }
            needWord("off ");
            int off = needNumber(0, 9999, false);
            int kind = needEndKind();
            needSemicolon();
            if (fault == 0) {
                told.addEnd(step, off, kind);
            }
        }

        private int needEndKind() {
            if (!expects(Scanner.WORD)) {
                return Program.NEVER;
            }
            int kind = scanner.isOneOf("mean ") ? Program.MEAN : scanner.isOneOf("one ") ? Program.ONE : Program.NEVER;
            needWord("never mean one ");
            return kind;
        }

        private void readStep() {
            int kind = stepKind();
            pass(kind != NONE && told.stepCount < MOST_STEPS);
            int place = scanner.place;
            Step step = new Step(kind, needNewName());
            readParts(step);
            if (fault == 0) {
                makeSpan(step);
                if (step.low < -FARTHEST || step.high > FARTHEST) {
                    refuse(7, place);
                }
            }
            needSemicolon();
            if (fault == 0) {
                told.addStep(step);
            }
        }

        private int stepKind() {
            if (scanner.isOneOf("sum ")) {
                return Step.SUM;
            }
            if (scanner.isOneOf("most ")) {
                return Step.MOST;
            }
            if (scanner.isOneOf("add ")) {
                return Step.ADD;
            }
            if (scanner.isOneOf("less ")) {
                return Step.LESS;
            }
            if (scanner.isOneOf("times ")) {
                return Step.TIMES;
            }
            if (scanner.isOneOf("scale ")) {
                return Step.SCALE;
            }
            if (scanner.isOneOf("at ")) {
                return Step.AT;
            }
            return scanner.isOneOf("pick ") ? Step.PICK : NONE;
        }

        private void readParts(Step step) {
            switch (step.kind) {
                case Step.SUM:
                case Step.MOST:
                    needWord("of ");
                    step.row = needRow();
                    break;
                case Step.SCALE:
                    step.a = needStep();
                    needWord("by ");
                    step.by = needNumber(-99, 99, true);
                    needWord("over ");
                    step.over = needNumber(1, 99, false);
                    break;
                case Step.AT:
                    step.row = needRow();
                    needWord("place ");
                    step.a = needStep();
                    break;
                case Step.PICK:
                    step.a = needStep();
                    step.b = needStep();
                    needWord("if ");
                    step.under = needStep();
                    needWord("under ");
                    step.other = needStep();
                    break;
                default:
                    step.a = needStep();
                    step.b = needStep();
            }
        }

        private void makeSpan(Step step) {
            Row row = step.row;
            if (row != null) {
                int times = step.kind == Step.SUM ? row.count : 1;
                step.spread((long) times * row.low, (long) times * row.high);
                return;
            }
            Step a = told.steps[step.a];
            Step b = told.steps[step.b];
            switch (step.kind) {
                case Step.ADD:
                    step.spread(a.low + b.low, a.high + b.high);
                    break;
                case Step.LESS:
                    step.spread(a.low - b.high, a.high - b.low);
                    break;
                case Step.TIMES:
                    step.spread(Shown.leastProduct(a.low, a.high, b.low, b.high),
                            Shown.greatestProduct(a.low, a.high, b.low, b.high));
                    break;
                case Step.SCALE:
                    step.spread(step.scaled(a.low), step.scaled(a.high));
                    break;
                default:
                    step.spread(Math.min(a.low, b.low), Math.max(a.high, b.high));
            }
        }
    }

    /** The SHEETS, and one more that WORST lays. */
    private static final class Sheets {
        static final int WORST = MOST_SHEETS;

        final int[] numbers = new int[(MOST_SHEETS + 1) * MOST_PLACES];
        final boolean[] kept = new boolean[MOST_SHEETS];
        int count = 0;

        boolean has(int sheet) {
            return sheet >= 0 && sheet < count;
        }

        /** Gives a SHEET the least number at each place whose bit is 0, the greatest at the others. */
        void lay(int sheet, int bits, Program told) {
            for (int row = 0; row < told.rowCount; row++) {
                Row its = told.rows[row];
                for (int place = its.first; place < its.first + its.count; place++) {
                    numbers[sheet * MOST_PLACES + place] = (bits >> place & 1) == 0 ? its.low : its.high;
                }
            }
        }
    }

    /** The CHANGES, and the CHOICE of them that is taken. */
    private static final class Changes {
        static final int SKIP = 0;
        static final int BITS = 1;
        static final int USUAL = 2;
        static final int COARSE = 3;
        static final int LEFT = 4;
        static final int SHORT = 5;
        static final int OLD = 6;

        private final int[] stepOf = new int[MOST_CHANGES];
        private final int[] kindOf = new int[MOST_CHANGES];
        private final int[] nOf = new int[MOST_CHANGES];
        private final int[] savesOf = new int[MOST_CHANGES];
        // By STEP: the number of its CHANGE in the CHOICE that is taken, or NONE.
        private final int[] taken = new int[MOST_STEPS];
        int count = 0;
        int bits = 0;

        void clear() {
            count = 0;
            take(0);
        }

        static boolean fits(int stepKind, int kind, int n) {
            boolean gathers = stepKind == Step.SUM || stepKind == Step.MOST;
            switch (kind) {
                case SKIP: return stepKind == Step.SUM && n >= 2 && n <= 6;
                case BITS: return n >= 1 && n <= 10;
                case USUAL: return stepKind == Step.PICK && n >= 0 && n <= 1;
                case COARSE: return (gathers || stepKind == Step.AT) && n >= 2 && n <= 99;
                case LEFT: return n == 0;
                case SHORT: return gathers && n >= 1 && n <= 5;
                case OLD: return (gathers || stepKind == Step.AT) && n == 0;
                default: return false;
            }
        }

        int add(int step, int kind, int n, int saves) {
            stepOf[count] = step;
            kindOf[count] = kind;
            nOf[count] = n;
            savesOf[count] = saves;
            count++;
            return count - 1;
        }

        /** Takes a CHOICE; false if it can't be. */
        boolean take(int choice) {
            Arrays.fill(taken, NONE);
            bits = 0;
            if (choice < 0 || choice >= 1 << count) {
                return false;
            }
            for (int change = 0; change < count; change++) {
                if ((choice >> change & 1) != 0) {
                    if (taken[stepOf[change]] != NONE) {
                        return false;
                    }
                    taken[stepOf[change]] = change;
                }
            }
            bits = choice;
            return true;
        }

        /**
         * Goes on to the CHOICE that differs next at a STEP or ahead of it, with none behind;
         * the first STEP that differs, or NONE if there is no more.
         */
        int advance(int last) {
            for (int step = last; step >= 0; step--) {
                int old = taken[step];
                int next = nextOf(step, old);
                taken[step] = next;
                if (old != NONE) {
                    bits &= ~(1 << old);
                }
                if (next != NONE) {
                    bits |= 1 << next;
                    return step;
                }
            }
            return NONE;
        }

        private int nextOf(int step, int change) {
            for (int next = change + 1; next < count; next++) {
                if (stepOf[next] == step) {
                    return next;
                }
            }
            return NONE;
        }

        int kindAt(int step) {
            return taken[step] == NONE ? NONE : kindOf[taken[step]];
        }

        int nAt(int step) {
            return taken[step] == NONE ? 0 : nOf[taken[step]];
        }

        int savedBy(int choice) {
            int saves = 0;
            for (int change = 0; change < count; change++) {
                if ((choice >> change & 1) != 0) {
                    saves += savesOf[change];
                }
            }
            return saves;
        }

        /** How many numbers a sum or most takes of a ROW that has so many. */
        int takes(int step, int has) {
            int kind = kindAt(step);
            int n = nAt(step);
            if (kind == SKIP && n > 0) {
                return (has + n - 1) / n;
            }
            return kind == SHORT ? Math.min(n, has) : has;
        }
    }

    /** Works the STEPS on SHEETS, with the CHOICE that is taken and without any. */
    private static final class Worker {
        private final Program told;
        private final Sheets sheets;
        private final Changes changes;
        final long[] plain = new long[(MOST_SHEETS + 1) * MOST_STEPS];
        final long[] changed = new long[(MOST_SHEETS + 1) * MOST_STEPS];

        Worker(Program told, Sheets sheets, Changes changes) {
            this.told = told;
            this.sheets = sheets;
            this.changes = changes;
        }

        void workPlain(int sheet, int last) {
            int base = sheet * MOST_STEPS;
            for (int step = 0; step <= last; step++) {
                plain[base + step] = made(plain, sheet, told.steps[step], NONE, 0);
            }
        }

        /** The STEPS ahead of the first one must stand already. */
        void workChanged(int sheet, int first, int last) {
            int base = sheet * MOST_STEPS;
            for (int step = first; step <= last; step++) {
                changed[base + step] =
                        made(changed, sheet, told.steps[step], changes.kindAt(step), changes.nAt(step));
            }
        }

        long errorAt(int sheet, int step) {
            return changed[sheet * MOST_STEPS + step] - plain[sheet * MOST_STEPS + step];
        }

        private long made(long[] values, int sheet, Step step, int change, int n) {
            if (change == Changes.LEFT) {
                return step.middle();
            }
            int base = sheet * MOST_STEPS;
            long comes;
            if (step.kind == Step.AT) {
                comes = fromPlace(step, values[base + step.a], sheet, change, n);
            } else if (step.row != null) {
                comes = fromRow(step, sheet, change, n);
            } else {
                comes = fromSteps(values, base, step, change, n);
            }
            return change == Changes.BITS ? comes >> n << n : comes;
        }

        private static int sourceOf(int sheet, int change) {
            boolean hasOneAhead = sheet > 0 && sheet < Sheets.WORST;
            return change == Changes.OLD && hasOneAhead ? sheet - 1 : sheet;
        }

        private long fromPlace(Step step, long place, int sheet, int change, int n) {
            Row row = step.row;
            if (row == null || row.count <= 0) {
                return 0;
            }
            int first = sourceOf(sheet, change) * MOST_PLACES + row.first;
            int number = sheets.numbers[first + (int) Math.floorMod(place, (long) row.count)];
            return floored(number, change == Changes.COARSE ? n : 1);
        }

        private long fromRow(Step step, int sheet, int change, int n) {
            Row row = step.row;
            int first = sourceOf(sheet, change) * MOST_PLACES + row.first;
            int stop = change == Changes.SHORT ? Math.min(n, row.count) : row.count;
            int stride = change == Changes.SKIP ? Math.max(n, 1) : 1;
            int unit = change == Changes.COARSE ? n : 1;
            long sum = 0;
            long most = Long.MIN_VALUE;
            int takes = 0;
            for (int place = 0; place < stop; place += stride) {
                long number = floored(sheets.numbers[first + place], unit);
                sum += number;
                most = Math.max(most, number);
                takes++;
            }
            if (step.kind == Step.MOST) {
                return most;
            }
            return change == Changes.SKIP && takes > 0 ? sum * row.count / takes : sum;
        }

        private static long fromSteps(long[] values, int base, Step step, int change, int n) {
            long a = values[base + step.a];
            long b = values[base + step.b];
            switch (step.kind) {
                case Step.ADD: return a + b;
                case Step.LESS: return a - b;
                case Step.TIMES: return a * b;
                case Step.SCALE: return step.scaled(a);
                default:
            }
            if (change == Changes.USUAL) {
                return n == 0 ? a : b;
            }
            return values[base + step.under] < values[base + step.other] ? a : b;
        }
    }

    /** SHOWN by the CHOICE that is taken, and a walk over all CHOICES that are not BARRED. */
    private static final class Shown {
        private final Program told;
        private final Changes changes;
        final long[] low = new long[MOST_STEPS];
        final long[] high = new long[MOST_STEPS];
        private long least = 0;
        private long greatest = 0;
        private boolean walking = false;
        private int last = 0;
        // The first STEP at which the walk's CHOICE may differ from the one ahead of it.
        int stale = 0;

        Shown(Program told, Changes changes) {
            this.told = told;
            this.changes = changes;
        }

        void restart() {
            changes.take(0);
            walking = false;
        }

        /** Takes the next CHOICE that is not BARRED; false if there is no more. */
        boolean next() {
            stale = MOST_STEPS;
            for (int turn = 0; turn < MOST_CHOICES; turn++) {
                int from = walking ? changes.advance(last) : 0;
                walking = true;
                if (from == NONE) {
                    return false;
                }
                stale = Math.min(stale, from);
                int barredBy = show(from);
                // What is BARRED stays so whatever is changed behind it: the walk skips all that.
                last = barredBy == NONE ? told.stepCount - 1 : barredBy;
                if (barredBy == NONE) {
                    return true;
                }
            }
            return false;
        }

        /** The STEPS ahead of the first one must be shown already; the STEP by which it is BARRED, or NONE. */
        int show(int first) {
            for (int step = first; step < told.stepCount; step++) {
                Step its = told.steps[step];
                int change = changes.kindAt(step);
                if (its.kind == Step.AT && change != Changes.LEFT && errs(its.a)) {
                    return step;
                }
                least = 0;
                greatest = 0;
                if (its.row == null) {
                    showFromSteps(its);
                } else {
                    showRowChange(its, its.row, change, step);
                }
                showChange(its, change, changes.nAt(step));
                if (least < -FARTHEST || greatest > FARTHEST) {
                    return step;
                }
                low[step] = least;
                high[step] = greatest;
            }
            return NONE;
        }

        long farOff(int step) {
            return Math.max(-low[step], high[step]);
        }

        private boolean errs(int step) {
            return low[step] != 0 || high[step] != 0;
        }

        private void set(long e, long f) {
            least = e;
            greatest = f;
        }

        private void showFromSteps(Step step) {
            int a = step.a;
            int b = step.b;
            switch (step.kind) {
                case Step.ADD:
                    set(low[a] + low[b], high[a] + high[b]);
                    break;
                case Step.LESS:
                    set(low[a] - high[b], high[a] - low[b]);
                    break;
                case Step.TIMES:
                    showTimes(a, b);
                    break;
                case Step.SCALE:
                    showScale(step);
                    break;
                default:
                    showPick(step);
            }
        }

        private void showTimes(int a, int b) {
            Step p = told.steps[a];
            Step q = told.steps[b];
            set(leastProduct(p.low, p.high, low[b], high[b])
                            + leastProduct(q.low, q.high, low[a], high[a])
                            + leastProduct(low[a], high[a], low[b], high[b]),
                    greatestProduct(p.low, p.high, low[b], high[b])
                            + greatestProduct(q.low, q.high, low[a], high[a])
                            + greatestProduct(low[a], high[a], low[b], high[b]));
        }

        private void showScale(Step step) {
            if (!errs(step.a) || step.over == 0) {
                return;
            }
            long one = low[step.a] * step.by;
            long other = high[step.a] * step.by;
            long over = step.over;
            set(Math.floorDiv(Math.min(one, other), over) - 1,
                    -Math.floorDiv(-Math.max(one, other), over) + 1);
        }

        private void showPick(Step step) {
            set(Math.min(low[step.a], low[step.b]), Math.max(high[step.a], high[step.b]));
            if (errs(step.under) || errs(step.other)) {
                widenByTaking(step.a, step.b);
                widenByTaking(step.b, step.a);
            }
        }

        /** What errs if one STEP is taken where the other one was due. */
        private void widenByTaking(int one, int due) {
            Step a = told.steps[one];
            Step b = told.steps[due];
            least = Math.min(least, a.low - b.high + low[one]);
            greatest = Math.max(greatest, a.high - b.low + high[one]);
        }

        private void showChange(Step step, int change, int n) {
            switch (change) {
                case Changes.BITS:
                    least -= (1L << n) - 1;
                    break;
                case Changes.USUAL:
                    int one = n == 0 ? step.a : step.b;
                    set(low[one], high[one]);
                    widenByTaking(one, n == 0 ? step.b : step.a);
                    break;
                case Changes.LEFT:
                    set(step.middle() - step.high, step.middle() - step.low);
                    break;
                default:
            }
        }

        private void showRowChange(Step step, Row row, int change, int number) {
            boolean sums = step.kind == Step.SUM;
            long reads = sums ? row.count : 1;
            long wide = (long) row.high - row.low;
            long missing = row.count - changes.takes(number, row.count);
            switch (change) {
                case Changes.SKIP:
                    set(-missing * wide - 1, missing * wide + 1);
                    break;
                case Changes.COARSE:
                    least -= reads * (changes.nAt(number) - 1);
                    break;
                case Changes.SHORT:
                    if (missing > 0) {
                        set(sums ? -missing * row.high : -wide, sums ? -missing * row.low : 0);
                    }
                    break;
                case Changes.OLD:
                    set(-reads * wide, reads * wide);
                    break;
                default:
            }
        }

        static long leastProduct(long a, long b, long c, long d) {
            return Math.min(Math.min(a * c, a * d), Math.min(b * c, b * d));
        }

        static long greatestProduct(long a, long b, long c, long d) {
            return Math.max(Math.max(a * c, a * d), Math.max(b * c, b * d));
        }
    }

    /** The FRONT of the END that was asked for last. */
    private static final class Front {
        private final Program told;
        private final Changes changes;
        private final Shown shown;
        private int itsEnd = NONE;
        // Both rise from pair to pair.
        final long[] offs = new long[MOST_CHOICES];
        final int[] saves = new int[MOST_CHOICES];
        int count = 0;

        Front(Program told, Changes changes, Shown shown) {
            this.told = told;
            this.changes = changes;
            this.shown = shown;
        }

        void forget() {
            itsEnd = NONE;
        }

        void gather(int end) {
            if (itsEnd == end) {
                return;
            }
            itsEnd = end;
            count = 0;
            shown.restart();
            for (int turn = 0; turn < MOST_CHOICES && shown.next(); turn++) {
                bring(shown.farOff(told.endStep[end]), changes.savedBy(changes.bits));
            }
        }

        private void bring(long off, int saving) {
            int notFarther = countNotFarther(off);
            if (notFarther > 0 && saves[notFarther - 1] >= saving) {
                return;
            }
            boolean beatsLike = notFarther > 0 && offs[notFarther - 1] == off;
            int place = beatsLike ? notFarther - 1 : notFarther;
            int rest = notFarther;
            while (rest < count && saves[rest] <= saving) {
                rest++;
            }
            if (place + 1 + count - rest > MOST_CHOICES) {
                return;
            }
            System.arraycopy(offs, rest, offs, place + 1, count - rest);
            System.arraycopy(saves, rest, saves, place + 1, count - rest);
            offs[place] = off;
            saves[place] = saving;
            count = place + 1 + count - rest;
        }

        private int countNotFarther(long off) {
            int from = 0;
            int to = count;
            for (int halving = 0; halving < CHOICE_BITS + 1 && from < to; halving++) {
                int middle = (from + to) >> 1;
                if (offs[middle] <= off) {
                    from = middle + 1;
                } else {
                    to = middle;
                }
            }
            return from;
        }
    }

    /** The PLANS of the END that was asked for last, for all amounts at once. */
    private static final class Plan {
        private static final int AMOUNTS = MOST_PLANNED + 1;
        private static final int LAST_CHOICE = MOST_CHOICES - 1;

        private final Program told;
        private final Sheets sheets;
        private final Changes changes;
        private final Shown shown;
        private final Worker worker;
        private int itsEnd = NONE;
        // By SHEET and ERROR without sign: what is saved most and the least CHOICE that does, or NONE.
        private final int[] choices = new int[MOST_SHEETS * AMOUNTS];
        // By SHEET and amount: what that SHEET and all behind it can save for so much.
        private final int[] saves = new int[(MOST_SHEETS + 1) * AMOUNTS];

        Plan(Program told, Sheets sheets, Changes changes, Shown shown, Worker worker) {
            this.told = told;
            this.sheets = sheets;
            this.changes = changes;
            this.shown = shown;
            this.worker = worker;
        }

        void forget() {
            itsEnd = NONE;
        }

        void prepare(int end) {
            if (itsEnd == end) {
                return;
            }
            itsEnd = end;
            Arrays.fill(choices, NONE);
            Arrays.fill(saves, 0);
            shown.restart();
            for (int turn = 0; turn < MOST_CHOICES && shown.next(); turn++) {
                bringChoice(told.endStep[end]);
            }
            for (int sheet = sheets.count - 1; sheet >= 0; sheet--) {
                addUp(sheet);
            }
        }

        private void bringChoice(int step) {
            // With what is saved above the CHOICE's bits, the greater of two such numbers is the better one.
            int packed = changes.savedBy(changes.bits) << CHOICE_BITS | LAST_CHOICE - changes.bits;
            for (int sheet = 0; sheet < sheets.count; sheet++) {
                worker.workChanged(sheet, shown.stale, step);
                long wrong = Math.abs(worker.errorAt(sheet, step));
                if (wrong < AMOUNTS) {
                    int slot = sheet * AMOUNTS + (int) wrong;
                    choices[slot] = Math.max(choices[slot], packed);
                }
            }
        }

        private void addUp(int sheet) {
            int base = sheet * AMOUNTS;
            int behind = base + AMOUNTS;
            int mostSaved = NONE;
            for (int wrong = 0; wrong < AMOUNTS; wrong++) {
                int saved = choices[base + wrong] >> CHOICE_BITS;
                // One that errs more and saves no more can never add to what is saved.
                if (saved > mostSaved) {
                    mostSaved = saved;
                    for (int much = wrong; much < AMOUNTS; much++) {
                        saves[base + much] = Math.max(saves[base + much], saved + saves[behind + much - wrong]);
                    }
                }
            }
        }

        int savesFor(int much) {
            return saves[much];
        }

        int choiceFor(int much, int sheet) {
            int rest = much;
            int choice = 0;
            for (int at = 0; at <= sheet; at++) {
                int wrong = wrongOfLeast(at, rest);
                choice = choiceIn(choices[at * AMOUNTS + wrong]);
                rest -= wrong;
            }
            return choice;
        }

        /** The ERROR without sign of the least CHOICE with which a SHEET and those behind it save most. */
        private int wrongOfLeast(int sheet, int much) {
            int base = sheet * AMOUNTS;
            int behind = base + AMOUNTS;
            int found = 0;
            int foundChoice = MOST_CHOICES;
            for (int wrong = 0; wrong <= much; wrong++) {
                int packed = choices[base + wrong];
                boolean savesMost = packed != NONE
                        && (packed >> CHOICE_BITS) + saves[behind + much - wrong] == saves[base + much];
                if (savesMost && choiceIn(packed) < foundChoice) {
                    found = wrong;
                    foundChoice = choiceIn(packed);
                }
            }
            return found;
        }

        private static int choiceIn(int packed) {
            return LAST_CHOICE - (packed & LAST_CHOICE);
        }
    }
}
