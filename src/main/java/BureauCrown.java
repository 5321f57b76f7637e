import java.util.Arrays;

/** A kingdom signed over to a bureau: its drawers and papers, the law its days go by, and reckonings beside. */
public final class BureauCrown {
    public static final int NONE = -1;

    private static final int NOT_SO = -2;
    private static final int WRONG_BYTES = -3;
    private static final int TOO_MANY = -4;

    private static final int DRAWERS = 12;
    private static final int PAPERS = 24;
    private static final int SUBJECTS = 16;
    private static final int MOST_DAYS_A_CALL = 100;
    private static final int MOST_FEWEST_PAPERS = 10;
    private static final int NO_DRAWER_BYTE = 255;
    private static final int LAST_MINUTE = 1439;

    private final Tape tape;
    private final Scan scan;
    private final CabinetReader cabinetReader;
    private final LawReader lawReader;
    private final Slip writtenSlip;
    private final Calendar calendar;
    private final Reckoner reckoner;
    private final Panels panels;
    private final Bureau trial;
    private final Bureau kept;
    private Bureau bureau;
    private Bureau spareBureau;
    private Law ruling;
    private Law spareLaw;
    private boolean anyKept;

    public BureauCrown() {
        tape = new Tape();
        scan = new Scan(tape);
        cabinetReader = new CabinetReader(scan);
        writtenSlip = new Slip(scan);
        calendar = new Calendar();
        reckoner = new Reckoner(tape);
        panels = new Panels(tape);
        trial = new Bureau();
        kept = new Bureau();
        bureau = new Bureau();
        spareBureau = new Bureau();
        ruling = new Law();
        spareLaw = new Law();
        lawReader = new LawReader(scan, spareLaw);
        anyKept = false;
    }

    public boolean put(int p, int d) {
        if (!bureau.hasPaper(p)) {
            return false;
        }
        if (d == NONE) {
            bureau.takeOut(p);
            return true;
        }
        if (!bureau.isTold(d)) {
            return false;
        }
        if (bureau.where[p] == d) {
            return true;
        }
        if (!bureau.fits(p, d)) {
            return false;
        }
        bureau.move(p, d);
        return true;
    }

    public int feed(int a, int b, int c, int d, int e) {
        if (!tape.hasSpaceForFive()) {
            return NONE;
        }
        tape.append(a);
        tape.append(b);
        tape.append(c);
        tape.append(d);
        tape.append(e);
        return tape.length;
    }

    public int law(int n) {
        if (!isFromTo(n, 1, LawReader.MOST_BYTES) || !tape.holds(n)) {
            return NONE;
        }
        int answer = lawReader.read(n, spareLaw);
        tape.clear();
        if (answer > 0) {
            Law before = ruling;
            ruling = spareLaw;
            spareLaw = before;
        }
        return answer;
    }

    public int cabinet(int n) {
        if (!isFromTo(n, 1, CabinetReader.MOST_BYTES) || !tape.holds(n)) {
            return NONE;
        }
        int answer = cabinetReader.read(n, spareBureau);
        tape.clear();
        if (answer > 0) {
            spareBureau.takeTime(bureau);
            Bureau before = bureau;
            bureau = spareBureau;
            spareBureau = before;
        }
        return answer;
    }

    public int days(int n) {
        if (!isFromTo(n, 1, MOST_DAYS_A_CALL)) {
            return NONE;
        }
        calendar.pass(bureau, ruling, n);
        return calendar.putIn;
    }

    public int tried(int n, int what) {
        if (!isFromTo(n, 1, MOST_DAYS_A_CALL) || !canBeTried(what)) {
            return NONE;
        }
        trial.copyFrom(bureau);
        calendar.pass(trial, ruling, n);
        if (what >= 30) {
            return trial.where[what - 30];
        }
        if (what >= 10) {
            return trial.full[what - 10];
        }
        switch (what) {
            case 0: return calendar.putIn;
            case 1: return calendar.newlyRead;
            case 2: return trial.bitsOut();
            default: return trial.bitsRead();
        }
    }

    private boolean canBeTried(int what) {
        if (isFromTo(what, 0, 3)) {
            return true;
        }
        if (isFromTo(what, 10, 10 + DRAWERS - 1)) {
            return bureau.isTold(what - 10);
        }
        return isFromTo(what, 30, 30 + PAPERS - 1) && bureau.hasPaper(what - 30);
    }

    public int drawerIs(int d, int what) {
        if (!bureau.isTold(d)) {
            return NONE;
        }
        switch (what) {
            case 0: return bureau.room[d];
            case 1: return bureau.full[d];
            case 2: return bureau.bitsIn(d);
            default: return NONE;
        }
    }

    public int paperIs(int p, int what) {
        if (!bureau.hasPaper(p)) {
            return NONE;
        }
        switch (what) {
            case 0: return bureau.subject[p];
            case 1: return bureau.size[p];
            case 2: return bureau.where[p];
            case 3: return bureau.read[p];
            case 4: return bureau.age[p];
            default: return NONE;
        }
    }

    public int shut(int n) {
        if (!isFromTo(n, 1, MOST_DAYS_A_CALL)) {
            return NONE;
        }
        trial.copyFrom(bureau);
        for (int gone = 0; gone < n; gone++) {
            if (trial.bitsOut() == 0) {
                return gone;
            }
            calendar.pass(trial, ruling, 1);
        }
        return trial.bitsOut() == 0 ? n : NOT_SO;
    }

    public int fewest() {
        if (bureau.papers > MOST_FEWEST_PAPERS) {
            return TOO_MANY;
        }
        return reckoner.fewestDrawers(bureau);
    }

    public int free(int what) {
        if (!isFromTo(what, 0, 1)) {
            return NONE;
        }
        int d = bureau.freest();
        if (d < 0) {
            return NOT_SO;
        }
        return what == 0 ? bureau.space(d) : d;
    }

    public int ofSubject(int s, int what) {
        if (!isFromTo(s, 0, SUBJECTS - 1) || !isFromTo(what, 0, 1)) {
            return NONE;
        }
        return what == 0 ? bureau.papersOf(s) : bureau.sizesInOf(s);
    }

    public int oldest() {
        return bureau.longestIn();
    }

    public int slip(int n, int what) {
        boolean known = isFromTo(what, 0, Slip.ALPHABET - 1) || isFromTo(what, 100, 105);
        if (!known || !isFromTo(n, 1, Slip.MOST_BYTES) || !tape.holds(n)) {
            return NONE;
        }
        int answer = writtenSlip.read(n);
        tape.clear();
        return answer < 0 ? answer : writtenSlip.told(what);
    }

    public int secret(int n, int panel, int what) {
        boolean known = isFromTo(n, 2, Panels.MOST) && isFromTo(panel, 0, n - 1) && isFromTo(what, 0, 1);
        if (!known || !tape.holds(2 * n)) {
            return NONE;
        }
        int answer = panels.solve(n, panel, what);
        tape.clear();
        return answer;
    }

    public int nest(int n) {
        if (!isFromTo(n, 1, 12) || !tape.holds(2 * n)) {
            return NONE;
        }
        int answer = reckoner.mostNested(n);
        tape.clear();
        return answer;
    }

    public int dusted(int n) {
        if (!isFromTo(n, 1, 20) || !tape.holds(n)) {
            return NONE;
        }
        int answer = n - reckoner.longestRising(n);
        tape.clear();
        return answer;
    }

    public int balanced(int n) {
        if (!isFromTo(n, 1, 12) || !tape.holds(2 * n)) {
            return NONE;
        }
        int answer = reckoner.balancePlace(n);
        tape.clear();
        return answer;
    }

    public int pigeonholes(int m, int n, int what) {
        boolean known = isFromTo(m, 2, 16) && isFromTo(n, 1, m) && isFromTo(what, 0, 2);
        if (!known || !tape.holds(n)) {
            return NONE;
        }
        int answer = reckoner.holesFilled(m, n, what);
        tape.clear();
        return answer;
    }

    public int planked(int wide, int along) {
        if (!isFromTo(wide, 1, 8) || !isFromTo(along, 1, 8)) {
            return NONE;
        }
        return reckoner.waysToPlank(wide, along);
    }

    public int unions(int n, int m, int what) {
        boolean known = isFromTo(n, 2, 16) && isFromTo(m, 1, 20) && isFromTo(what, 0, 2);
        if (!known || !tape.holds(2 * m)) {
            return NONE;
        }
        int answer = reckoner.kingdoms(n, m, what);
        tape.clear();
        return answer;
    }

    public int heirs(int n, int i) {
        if (!isFromTo(n, 1, 16) || !isFromTo(i, 0, 15) || !tape.holds(n + 2)) {
            return NONE;
        }
        int answer = reckoner.heirInLine(n, i);
        tape.clear();
        return answer;
    }

    public int heard(int n, int what) {
        boolean known = isFromTo(n, 1, 10) && (isFromTo(what, 0, n - 1) || what == 100);
        if (!known || !tape.holds(2 * n)) {
            return NONE;
        }
        int answer = what == 100 ? reckoner.waitOfAll(n) : reckoner.heardToTheEnd(n, what);
        tape.clear();
        return answer;
    }

    public int ticks(int from, int to) {
        if (!isFromTo(from, 0, LAST_MINUTE) || !isFromTo(to, from, LAST_MINUTE)) {
            return NONE;
        }
        return Reckoner.strokes(from, to);
    }

    public boolean seed(int x) {
        if (!isFromTo(x, 0, Bureau.DRAW_MODULUS - 1)) {
            return false;
        }
        bureau.x = x;
        return true;
    }

    public int keep() {
        kept.copyFrom(bureau);
        anyKept = true;
        return bureau.day;
    }

    public boolean undo() {
        if (!anyKept) {
            return false;
        }
        bureau.putBack(kept);
        bureau.takeTime(kept);
        return true;
    }

    public int check(int n) {
        if (!isFromTo(n, 0, DRAWERS) || !tape.holds(n)) {
            return NOT_SO;
        }
        int answer = firstUnlike(n);
        tape.clear();
        return answer;
    }

    private int firstUnlike(int n) {
        for (int d = 0; d < n; d++) {
            int due = bureau.isTold(d) ? bureau.full[d] : NO_DRAWER_BYTE;
            if (tape.at(d) != due) {
                return d;
            }
        }
        return NONE;
    }

    public int count(int what) {
        switch (what) {
            case 0: return bureau.day;
            case 1: return bureau.bitsTold();
            case 2: return bureau.papers;
            case 3: return bureau.bitsOut();
            case 4: return bureau.bitsRead();
            case 5: return ruling.rules;
            case 6: return tape.length;
            case 7: return bureau.x;
            case 8: return bureau.fullOfAll();
            case 9: return bureau.roomOfAll();
            default: return NONE;
        }
    }

    private static boolean isFromTo(int value, int low, int high) {
        return value >= low && value <= high;
    }

    /** The bytes that were fed and not yet used. */
    private static final class Tape {
        static final int MOST = 260;
        static final int END = -1;

        final int[] bytes = new int[MOST];
        int length = 0;

        boolean hasSpaceForFive() {
            return length + 20 <= MOST;
        }

        void append(int four) {
            if (length < 0 || length + 4 > MOST) {
                return;
            }
            for (int k = 0; k < 4; k++) {
                bytes[length + k] = (four >>> (24 - 8 * k)) & 255;
            }
            length += 4;
        }

        boolean holds(int n) {
            return n <= length;
        }

        int at(int place) {
            return place >= 0 && place < length && place < MOST ? bytes[place] : END;
        }

        void clear() {
            length = 0;
        }
    }

    /** One walk over the first bytes of the tape; behind the first fault it shows nothing but the end. */
    private static final class Scan {
        static final int END = Tape.END;
        static final int MISPLACED = 1;

        final Tape tape;
        int limit = 0;
        int place = 0;
        int fault = 0;

        Scan(Tape tape) {
            this.tape = tape;
        }

        void start(int n) {
            limit = n;
            place = 0;
            fault = 0;
        }

        int peek() {
            return fault == 0 && place < limit ? tape.at(place) : END;
        }

        void next() {
            place++;
        }

        boolean failed() {
            return fault != 0;
        }

        void fail(int number, int where) {
            if (fault == 0) {
                fault = -1000 * number - where;
            }
        }

        void failHere(int number) {
            fail(number, place);
        }

        void expect(int sign) {
            if (peek() == sign) {
                next();
            } else {
                failHere(MISPLACED);
            }
        }

        static boolean isDigit(int sign) {
            return sign >= '0' && sign <= '9';
        }
    }

    /** The drawers, the papers, the day and the number of the draws. */
    private static final class Bureau {
        static final int OUT = -2;
        static final int LAST_DAY = 9999;
        static final int DRAW_MODULUS = 65536;

        /** A ROOM of 0 stands for a drawer that is not told. */
        final int[] room = new int[DRAWERS];
        final int[] full = new int[DRAWERS];
        final int[] held = new int[DRAWERS];
        final int[] subject = new int[PAPERS];
        final int[] size = new int[PAPERS];
        final int[] where = new int[PAPERS];
        /** 1 if it is READ, else 0. */
        final int[] read = new int[PAPERS];
        final int[] age = new int[PAPERS];
        int papers = 0;
        int day = 0;
        int x = 1;

        void clearCabinet() {
            Arrays.fill(room, 0);
            Arrays.fill(full, 0);
            Arrays.fill(held, 0);
            papers = 0;
        }

        void copyFrom(Bureau other) {
            System.arraycopy(other.room, 0, room, 0, DRAWERS);
            System.arraycopy(other.full, 0, full, 0, DRAWERS);
            System.arraycopy(other.held, 0, held, 0, DRAWERS);
            System.arraycopy(other.subject, 0, subject, 0, PAPERS);
            System.arraycopy(other.size, 0, size, 0, PAPERS);
            System.arraycopy(other.where, 0, where, 0, PAPERS);
            System.arraycopy(other.read, 0, read, 0, PAPERS);
            System.arraycopy(other.age, 0, age, 0, PAPERS);
            papers = other.papers;
            takeTime(other);
        }

        void takeTime(Bureau other) {
            day = other.day;
            x = other.x;
        }

        boolean isTold(int d) {
            return d >= 0 && d < DRAWERS && room[d] > 0;
        }

        boolean hasPaper(int p) {
            return p >= 0 && p < papers && p < PAPERS;
        }

        boolean isIn(int p) {
            return hasPaper(p) && isTold(where[p]);
        }

        int space(int d) {
            return isTold(d) ? room[d] - full[d] : 0;
        }

        boolean fits(int p, int d) {
            return hasPaper(p) && isTold(d) && size[p] <= room[d] - full[d];
        }

        void tellDrawer(int d, int space) {
            if (d >= 0 && d < DRAWERS) {
                room[d] = space;
            }
        }

        void addPaper(int itsSubject, int itsSize) {
            if (papers < 0 || papers >= PAPERS) {
                return;
            }
            subject[papers] = itsSubject;
            size[papers] = itsSize;
            where[papers] = OUT;
            read[papers] = 0;
            age[papers] = 0;
            papers++;
        }

        void takeOut(int p) {
            if (!hasPaper(p)) {
                return;
            }
            lift(p);
            read[p] = 0;
            age[p] = 0;
        }

        void move(int p, int d) {
            if (!fits(p, d)) {
                return;
            }
            lift(p);
            where[p] = d;
            age[p] = 0;
            full[d] += size[p];
            held[d]++;
        }

        private void lift(int p) {
            if (!hasPaper(p) || !isTold(where[p])) {
                return;
            }
            int d = where[p];
            full[d] -= size[p];
            held[d]--;
            where[p] = OUT;
        }

        void putBack(Bureau before) {
            int shared = Math.min(papers, before.papers);
            for (int p = 0; p < shared; p++) {
                takeOut(p);
            }
            for (int p = 0; p < shared; p++) {
                if (before.isIn(p) && fits(p, before.where[p])) {
                    move(p, before.where[p]);
                    read[p] = before.read[p];
                    age[p] = before.age[p];
                }
            }
        }

        int draw() {
            x = (25173 * x + 13849) % DRAW_MODULUS;
            return x % 10;
        }

        int bitsTold() {
            int bits = 0;
            for (int d = 0; d < DRAWERS; d++) {
                bits |= isTold(d) ? 1 << d : 0;
            }
            return bits;
        }

        int bitsIn(int d) {
            int bits = 0;
            for (int p = 0; p < papers; p++) {
                bits |= hasPaper(p) && where[p] == d ? 1 << p : 0;
            }
            return bits;
        }

        int bitsOut() {
            return bitsIn(OUT);
        }

        int bitsRead() {
            int bits = 0;
            for (int p = 0; p < papers; p++) {
                bits |= hasPaper(p) && read[p] != 0 ? 1 << p : 0;
            }
            return bits;
        }

        int fullOfAll() {
            int sum = 0;
            for (int d = 0; d < DRAWERS; d++) {
                sum += full[d];
            }
            return sum;
        }

        int roomOfAll() {
            int sum = 0;
            for (int d = 0; d < DRAWERS; d++) {
                sum += room[d];
            }
            return sum;
        }

        int freest() {
            int best = NOT_SO;
            for (int d = 0; d < DRAWERS; d++) {
                if (isTold(d) && (best < 0 || space(d) > space(best))) {
                    best = d;
                }
            }
            return best;
        }

        int papersOf(int s) {
            int sum = 0;
            for (int p = 0; p < papers; p++) {
                sum += hasPaper(p) && subject[p] == s ? 1 : 0;
            }
            return sum;
        }

        int sizesInOf(int s) {
            int sum = 0;
            for (int p = 0; p < papers; p++) {
                sum += isIn(p) && subject[p] == s ? size[p] : 0;
            }
            return sum;
        }

        int longestIn() {
            int best = NOT_SO;
            for (int p = 0; p < papers; p++) {
                if (isIn(p) && (best < 0 || age[p] > age[best])) {
                    best = p;
                }
            }
            return best;
        }
    }

    /** Reads the text of a cabinet into a bureau that is not in use yet. */
    private static final class CabinetReader {
        static final int MOST_BYTES = 160;
        static final int MOST_LINES = 36;
        static final int THIRD_DIGIT = 2;
        static final int NO_ROOM_AT_ALL = 3;
        static final int ONE_TOO_MANY = 4;
        static final int TOLD_TWICE = 6;
        static final int NOT_TOLD = 7;
        static final int NO_ROOM_LEFT = 8;

        final Scan scan;

        CabinetReader(Scan scan) {
            this.scan = scan;
        }

        int read(int n, Bureau into) {
            into.clearCabinet();
            scan.start(n);
            for (int lines = 0; lines <= MOST_LINES && !scan.failed(); lines++) {
                readLine(into, lines);
                if (!scan.failed() && scan.peek() == Scan.END) {
                    return lines + 1;
                }
                scan.expect(';');
            }
            return scan.fault;
        }

        private void readLine(Bureau into, int linesAhead) {
            int letter = scan.peek();
            boolean isDrawer = isDrawerLetter(letter);
            if (!isDrawer && !(letter >= 'A' && letter <= 'P')) {
                scan.failHere(Scan.MISPLACED);
            } else if (linesAhead >= MOST_LINES || (!isDrawer && into.papers >= PAPERS)) {
                scan.failHere(ONE_TOO_MANY);
            } else if (isDrawer) {
                readDrawer(into, letter - 'a');
            } else {
                readPaper(into, letter - 'A');
            }
        }

        private void readDrawer(Bureau into, int d) {
            if (into.isTold(d)) {
                scan.failHere(TOLD_TWICE);
                return;
            }
            scan.next();
            int space = readRoom();
            if (!scan.failed()) {
                into.tellDrawer(d, space);
            }
        }

        private int readRoom() {
            int first = scan.place;
            if (!Scan.isDigit(scan.peek())) {
                scan.failHere(Scan.MISPLACED);
                return 0;
            }
            int space = scan.peek() - '0';
            scan.next();
            if (Scan.isDigit(scan.peek())) {
                space = 10 * space + scan.peek() - '0';
                scan.next();
            }
            if (Scan.isDigit(scan.peek())) {
                scan.failHere(THIRD_DIGIT);
            } else if (space == 0) {
                scan.fail(NO_ROOM_AT_ALL, first);
            }
            return space;
        }

        private void readPaper(Bureau into, int itsSubject) {
            scan.next();
            int digit = scan.peek();
            if (!Scan.isDigit(digit) || digit == '0') {
                scan.failHere(Scan.MISPLACED);
                return;
            }
            scan.next();
            into.addPaper(itsSubject, digit - '0');
            if (scan.peek() == '>') {
                scan.next();
                readItsDrawer(into);
            }
        }

        private void readItsDrawer(Bureau into) {
            int letter = scan.peek();
            int p = into.papers - 1;
            if (!isDrawerLetter(letter)) {
                scan.failHere(Scan.MISPLACED);
            } else if (!into.isTold(letter - 'a')) {
                scan.failHere(NOT_TOLD);
            } else if (!into.fits(p, letter - 'a')) {
                scan.failHere(NO_ROOM_LEFT);
            } else {
                into.move(p, letter - 'a');
                scan.next();
            }
        }

        private static boolean isDrawerLetter(int sign) {
            return sign >= 'a' && sign <= 'l';
        }
    }

    /** The rules as codes for a small machine with a stack; its jumps lead forward only. */
    private static final class Law {
        static final int MOST_RULES = 16;
        static final int MOST_CODES = 512;
        static final int MOST_STACKED = 64;
        static final int NUMBER = 1;
        static final int FACT = 2;
        static final int NOT = 3;
        static final int IF_TRUE_TO = 4;
        static final int IF_FALSE_TO = 5;
        /** In the order of the facts. */
        static final String FACT_LETTERS = "pszdfnaitw";
        static final int FACTS = 10;

        final int[] kind = new int[MOST_RULES];
        final int[] valueFrom = new int[MOST_RULES];
        final int[] testFrom = new int[MOST_RULES];
        final int[] testTo = new int[MOST_RULES];
        final int[] codes = new int[MOST_CODES];
        final int[] stack = new int[MOST_STACKED];
        final int[] facts = new int[FACTS];
        int rules = 0;
        int length = 0;

        void clear() {
            rules = 0;
            length = 0;
        }

        void emit(int code) {
            if (length >= 0 && length < MOST_CODES) {
                codes[length] = code;
                length++;
            }
        }

        void emitPair(int code, int detail) {
            emit(code);
            emit(detail);
        }

        /** Leaves the target open; the place of it is for land. */
        int emitJump(int code) {
            emitPair(code, 0);
            return length - 1;
        }

        void land(int target) {
            if (target >= 0 && target < MOST_CODES) {
                codes[target] = length;
            }
        }

        void addRule(int itsKind, int itsValueFrom, int itsTestFrom) {
            if (rules < 0 || rules >= MOST_RULES) {
                return;
            }
            kind[rules] = itsKind;
            valueFrom[rules] = itsValueFrom;
            testFrom[rules] = itsTestFrom;
            testTo[rules] = length;
            rules++;
        }

        /** What the first rule of a kind that holds says; 0 if none does. PAPERS stands for no paper. */
        int valueOf(int itsKind, Bureau b, int p, int d, int draw) {
            tellFacts(b, p, d, draw);
            for (int rule = 0; rule < rules && rule < MOST_RULES; rule++) {
                if (kind[rule] == itsKind && run(testFrom[rule], testTo[rule]) != 0) {
                    return run(valueFrom[rule], testFrom[rule]);
                }
            }
            return 0;
        }

        private void tellFacts(Bureau b, int p, int d, int draw) {
            boolean paper = b.hasPaper(p);
            boolean drawer = b.isTold(d);
            facts[0] = p;
            facts[1] = paper ? b.subject[p] : SUBJECTS;
            facts[2] = paper ? b.size[p] : 0;
            facts[3] = d;
            facts[4] = drawer ? b.room[d] - b.full[d] : 0;
            facts[5] = drawer ? b.held[d] : 0;
            facts[6] = paper ? b.age[p] : 0;
            facts[7] = paper ? b.read[p] : 0;
            facts[8] = b.day % 100;
            facts[9] = draw;
        }

        /** What is refused answers 0: as a test it does not hold then, as a value it is 0, and both are due. */
        private int run(int from, int to) {
            int at = from;
            int top = -1;
            for (int step = 0; step < MOST_CODES && at >= 0 && at < to && at < MOST_CODES; step++) {
                int code = codes[at];
                int detail = at + 1 < MOST_CODES ? codes[at + 1] : 0;
                at++;
                if (code == NUMBER || code == FACT) {
                    if (top + 1 >= MOST_STACKED) {
                        return 0;
                    }
                    top++;
                    stack[top] = code == NUMBER ? detail : fact(detail);
                    at++;
                } else if (top < 0) {
                    return 0;
                } else if (code == NOT) {
                    stack[top] = stack[top] == 0 ? 1 : 0;
                } else if (code == IF_TRUE_TO || code == IF_FALSE_TO) {
                    boolean jumps = (stack[top] != 0) == (code == IF_TRUE_TO);
                    at = jumps ? detail : at + 1;
                    top = jumps ? top : top - 1;
                } else if (top < 1 || (stack[top] == 0 && isDivision(code))) {
                    return 0;
                } else {
                    stack[top - 1] = joined(code, stack[top - 1], stack[top]);
                    top--;
                }
            }
            return top >= 0 ? stack[top] : 0;
        }

        private int fact(int which) {
            return which >= 0 && which < FACTS ? facts[which] : 0;
        }

        private static boolean isDivision(int code) {
            return code == '/' || code == '%';
        }

        private static int joined(int code, int left, int right) {
            switch (code) {
                case '+': return left + right;
                case '-': return left - right;
                case '*': return left * right;
                case '/': return right == 0 ? 0 : left / right;
                case '%': return right == 0 ? 0 : left % right;
                case '<': return left < right ? 1 : 0;
                case '>': return left > right ? 1 : 0;
                default: return left == right ? 1 : 0;
            }
        }
    }

    /** Reads the text of a law into one that does not rule yet. */
    private static final class LawReader {
        static final int MOST_BYTES = 240;
        static final int MOST_OPEN = 6;
        static final int MOST_DIGITS = 5;
        static final int SIXTH_DIGIT = 2;
        static final int ONE_TOO_MANY = 4;
        static final int TOO_DEEP = 5;

        final Scan scan;
        Law into;

        LawReader(Scan scan, Law into) {
            this.scan = scan;
            this.into = into;
        }

        int read(int n, Law target) {
            into = target;
            into.clear();
            scan.start(n);
            for (int rules = 0; rules <= Law.MOST_RULES && !scan.failed(); rules++) {
                readRule(rules);
                if (!scan.failed() && scan.peek() == Scan.END) {
                    return rules + 1;
                }
                scan.expect(';');
            }
            return scan.fault;
        }

        private void readRule(int rulesAhead) {
            int letter = scan.peek();
            if (letter != 'e' && letter != 'r' && letter != 'x') {
                scan.failHere(Scan.MISPLACED);
                return;
            }
            if (rulesAhead >= Law.MOST_RULES) {
                scan.failHere(ONE_TOO_MANY);
                return;
            }
            scan.next();
            int valueFrom = into.length;
            if (letter == 'x') {
                // That it holds is all an x says: its value is 1.
                into.emitPair(Law.NUMBER, 1);
            } else {
                readSum(0);
            }
            int testFrom = into.length;
            scan.expect('(');
            readChoice(1);
            scan.expect(')');
            into.addRule(letter, valueFrom, testFrom);
        }

        private void readChoice(int open) {
            readPart(open);
            for (int k = 0; k < MOST_BYTES && scan.peek() == '|'; k++) {
                scan.next();
                int target = into.emitJump(Law.IF_TRUE_TO);
                readPart(open);
                into.land(target);
            }
        }

        private void readPart(int open) {
            readTest(open);
            for (int k = 0; k < MOST_BYTES && scan.peek() == '&'; k++) {
                scan.next();
                int target = into.emitJump(Law.IF_FALSE_TO);
                readTest(open);
                into.land(target);
            }
        }

        private void readTest(int open) {
            int sign = scan.peek();
            if (sign == '!') {
                if (opens(open)) {
                    readTest(open + 1);
                    into.emit(Law.NOT);
                }
            } else if (sign == '(') {
                if (opens(open)) {
                    readChoice(open + 1);
                    scan.expect(')');
                }
            } else {
                readSum(open);
                int comparison = scan.peek();
                if (isComparison(comparison)) {
                    scan.next();
                    readSum(open);
                    into.emit(comparison);
                } else {
                    scan.failHere(Scan.MISPLACED);
                }
            }
        }

        private void readSum(int open) {
            readTerm(open);
            for (int k = 0; k < MOST_BYTES && isSumSign(scan.peek()); k++) {
                int sign = scan.peek();
                scan.next();
                readTerm(open);
                into.emit(sign);
            }
        }

        private void readTerm(int open) {
            readFactor(open);
            for (int k = 0; k < MOST_BYTES && isTermSign(scan.peek()); k++) {
                int sign = scan.peek();
                scan.next();
                readFactor(open);
                into.emit(sign);
            }
        }

        private void readFactor(int open) {
            int sign = scan.peek();
            if (sign == '[') {
                if (opens(open)) {
                    readSum(open + 1);
                    scan.expect(']');
                }
            } else if (Scan.isDigit(sign)) {
                readNumber();
            } else {
                readFact(sign);
            }
        }

        private void readNumber() {
            int value = 0;
            for (int digits = 0; digits < MOST_DIGITS && Scan.isDigit(scan.peek()); digits++) {
                value = 10 * value + scan.peek() - '0';
                scan.next();
            }
            if (Scan.isDigit(scan.peek())) {
                scan.failHere(SIXTH_DIGIT);
            }
            into.emitPair(Law.NUMBER, value);
        }

        private void readFact(int sign) {
            int which = sign < 0 ? NONE : Law.FACT_LETTERS.indexOf((char) sign);
            if (which < 0) {
                scan.failHere(Scan.MISPLACED);
                return;
            }
            scan.next();
            into.emitPair(Law.FACT, which);
        }

        /** Steps over a sign that opens, unless six are open. */
        private boolean opens(int open) {
            if (open >= MOST_OPEN) {
                scan.failHere(TOO_DEEP);
                return false;
            }
            scan.next();
            return true;
        }

        private static boolean isComparison(int sign) {
            return sign == '<' || sign == '>' || sign == '=';
        }

        private static boolean isSumSign(int sign) {
            return sign == '+' || sign == '-';
        }

        private static boolean isTermSign(int sign) {
            return sign == '*' || sign == '/' || sign == '%';
        }
    }

    /** Lets days go by for a bureau, be it the real one or one that is only tried. */
    private static final class Calendar {
        static final int MOST_WISH = 9999;

        final boolean[] stuck = new boolean[DRAWERS];
        int putIn = 0;
        int newlyRead = 0;

        void pass(Bureau b, Law law, int n) {
            putIn = 0;
            newlyRead = 0;
            for (int k = 0; k < n && b.day < Bureau.LAST_DAY; k++) {
                findStuck(b, law);
                putPapersIn(b, law);
                readPapers(b, law);
                b.day++;
            }
        }

        private void findStuck(Bureau b, Law law) {
            for (int d = 0; d < DRAWERS; d++) {
                // The draw is taken for every told drawer, with or without an x in the law.
                stuck[d] = b.isTold(d) && law.valueOf('x', b, PAPERS, d, b.draw()) != 0;
            }
        }

        private void putPapersIn(Bureau b, Law law) {
            for (int p = 0; p < b.papers; p++) {
                if (!b.isIn(p)) {
                    int d = mostWished(b, law, p);
                    if (d >= 0) {
                        b.move(p, d);
                        putIn++;
                    }
                }
            }
        }

        private int mostWished(Bureau b, Law law, int p) {
            int best = NONE;
            int most = 0;
            for (int d = 0; d < DRAWERS; d++) {
                if (!stuck[d] && b.fits(p, d)) {
                    int wish = Math.min(MOST_WISH, law.valueOf('e', b, p, d, 0));
                    if (wish > most) {
                        most = wish;
                        best = d;
                    }
                }
            }
            return best;
        }

        private void readPapers(Bureau b, Law law) {
            for (int p = 0; p < b.papers; p++) {
                if (b.isIn(p)) {
                    int draw = b.draw();
                    // A draw is 0 to 9, so the bounds of r (0 to 10) need no care of their own.
                    boolean readNow = draw < law.valueOf('r', b, p, b.where[p], draw);
                    if (readNow && b.read[p] == 0) {
                        b.read[p] = 1;
                        newlyRead++;
                    }
                    b.age[p] = Math.min(Bureau.LAST_DAY, b.age[p] + 1);
                }
            }
        }
    }

    /** A slip in a round hand: read with its rounds written out, then asked. */
    private static final class Slip {
        static final int MOST_BYTES = 80;
        static final int MOST_LETTERS = 64;
        static final int MOST_OPEN = 2;
        static final int ALPHABET = 26;
        static final int THIRD_OPEN = 5;
        static final int ONE_TOO_MANY = 6;

        final Scan scan;
        final int[] letters = new int[MOST_LETTERS];
        final int[] often = new int[ALPHABET];
        int length = 0;

        Slip(Scan scan) {
            this.scan = scan;
        }

        /** How many letters it has, or a fault. */
        int read(int n) {
            length = 0;
            scan.start(n);
            readRow(0);
            return scan.failed() ? scan.fault : length;
        }

        private void readRow(int open) {
            int close = open == 0 ? Scan.END : ')';
            readOne(open);
            for (int k = 0; k < MOST_BYTES && !scan.failed() && scan.peek() != close; k++) {
                readOne(open);
            }
        }

        private void readOne(int open) {
            int first = scan.place;
            int times = 1;
            if (Scan.isDigit(scan.peek()) && scan.peek() >= '2') {
                times = scan.peek() - '0';
                scan.next();
            }
            int from = length;
            int sign = scan.peek();
            if (sign >= 'a' && sign <= 'z') {
                scan.next();
                add(sign - 'a', first);
            } else if (sign != '(') {
                scan.failHere(Scan.MISPLACED);
            } else if (open >= MOST_OPEN) {
                scan.failHere(THIRD_OPEN);
            } else {
                scan.next();
                readRow(open + 1);
                scan.expect(')');
            }
            repeat(from, times, first);
        }

        private void add(int letter, int first) {
            if (length < 0 || length >= MOST_LETTERS) {
                scan.fail(ONE_TOO_MANY, first);
                return;
            }
            letters[length] = letter;
            length++;
        }

        private void repeat(int from, int times, int first) {
            int round = length - from;
            for (int k = 0; k < round * (times - 1) && from + k < length && !scan.failed(); k++) {
                add(letters[from + k], first);
            }
        }

        int told(int what) {
            switch (what) {
                case 100: return length;
                case 101: return mostOften();
                case 102: return often[mostOften()];
                case 103: return bestShift();
                case 104: return isSameFromBehind(0, length) ? 1 : 0;
                case 105: return longestSameFromBehind();
                default: return vowelsShifted(what);
            }
        }

        private int mostOften() {
            Arrays.fill(often, 0);
            for (int k = 0; k < length; k++) {
                often[letters[k]]++;
            }
            int best = 0;
            for (int letter = 1; letter < ALPHABET; letter++) {
                if (often[letter] > often[best]) {
                    best = letter;
                }
            }
            return best;
        }

        private int bestShift() {
            int best = 0;
            for (int shift = 1; shift < ALPHABET; shift++) {
                if (vowelsShifted(shift) > vowelsShifted(best)) {
                    best = shift;
                }
            }
            return best;
        }

        private int vowelsShifted(int shift) {
            int sum = 0;
            for (int k = 0; k < length; k++) {
                sum += isVowel((letters[k] + shift) % ALPHABET) ? 1 : 0;
            }
            return sum;
        }

        private static boolean isVowel(int letter) {
            int sign = letter + 'a';
            return sign == 'a' || sign == 'e' || sign == 'i' || sign == 'o' || sign == 'u';
        }

        private int longestSameFromBehind() {
            for (int size = length; size > 1; size--) {
                for (int from = 0; from + size <= length; from++) {
                    if (isSameFromBehind(from, size)) {
                        return size;
                    }
                }
            }
            return Math.min(1, length);
        }

        private boolean isSameFromBehind(int from, int size) {
            for (int k = 0; 2 * k < size; k++) {
                if (letters[from + k] != letters[from + size - 1 - k]) {
                    return false;
                }
            }
            return true;
        }
    }

    /** The secret drawer: all states of the panels, walked from the one with all shut. */
    private static final class Panels {
        static final int MOST = 8;
        static final int STATES = 256;

        final Tape tape;
        final int[] queue = new int[STATES];
        final int[] moves = new int[STATES];
        final int[] firstMoved = new int[STATES];
        int queued = 0;

        Panels(Tape tape) {
            this.tape = tape;
        }

        int solve(int n, int panel, int what) {
            if (!isSound(n)) {
                return WRONG_BYTES;
            }
            int state = walk(n, panel);
            if (state < 0) {
                return NOT_SO;
            }
            return what == 0 ? moves[state] : firstMoved[state];
        }

        private boolean isSound(int n) {
            for (int k = 0; k < n; k++) {
                int asked = tape.at(2 * k) | tape.at(2 * k + 1);
                if (asked >> n != 0 || (asked >> k & 1) != 0) {
                    return false;
                }
            }
            return true;
        }

        /** States stand in the queue by moves, then by the first panel, so the first that will do is the one due. */
        private int walk(int n, int panel) {
            Arrays.fill(moves, NONE);
            moves[0] = 0;
            queue[0] = 0;
            queued = 1;
            for (int k = 0; k < queued && k < STATES; k++) {
                int state = queue[k];
                if ((state >> panel & 1) != 0) {
                    return state;
                }
                for (int moved = 0; moved < n; moved++) {
                    if (canMove(state, moved)) {
                        reach(state, moved);
                    }
                }
            }
            return NONE;
        }

        private boolean canMove(int state, int moved) {
            int open = tape.at(2 * moved);
            int shut = tape.at(2 * moved + 1);
            return (state & open) == open && (state & shut) == 0;
        }

        private void reach(int state, int moved) {
            int next = state ^ 1 << moved;
            if (next < 0 || next >= STATES || queued >= STATES || moves[next] >= 0) {
                return;
            }
            moves[next] = moves[state] + 1;
            firstMoved[next] = state == 0 ? moved : firstMoved[state];
            queue[queued] = next;
            queued++;
        }
    }

    /** The reckonings that need no memory from call to call; the rows are there so that no call makes any. */
    private static final class Reckoner {
        static final int ROW = 24;
        static final int SETS = 1024;
        static final int PROFILES = 256;
        /** Above every ROOM, so that drawers opened and the last one's filling make one number. */
        static final int FILL_BASE = 128;

        final Tape tape;
        final int[] row = new int[ROW];
        final int[] other = new int[ROW];
        final int[] packed = new int[SETS];
        final int[] ways = new int[PROFILES];
        final int[] nextWays = new int[PROFILES];

        Reckoner(Tape tape) {
            this.tape = tape;
        }

        /** A larger drawer takes all that a smaller one would, so only the largest ones need be opened. */
        int fewestDrawers(Bureau b) {
            if (b.papers == 0) {
                return 0;
            }
            int told = sortRooms(b);
            int all = (1 << b.papers) - 1;
            if (told == 0 || all >= SETS) {
                return NOT_SO;
            }
            int unreached = (told + 1) * FILL_BASE;
            Arrays.fill(packed, unreached);
            packed[0] = FILL_BASE;
            for (int set = 0; set < all; set++) {
                for (int p = 0; p < b.papers && packed[set] < unreached; p++) {
                    int with = set | 1 << p;
                    if (with != set) {
                        packed[with] = Math.min(packed[with], packOne(packed[set], b.size[p], told, unreached));
                    }
                }
            }
            return packed[all] < unreached ? packed[all] / FILL_BASE : NOT_SO;
        }

        private int sortRooms(Bureau b) {
            int told = 0;
            for (int d = 0; d < DRAWERS; d++) {
                if (b.isTold(d)) {
                    int at = told;
                    for (; at > 0 && row[at - 1] < b.room[d]; at--) {
                        row[at] = row[at - 1];
                    }
                    row[at] = b.room[d];
                    told++;
                }
            }
            return told;
        }

        private int packOne(int state, int size, int told, int unreached) {
            int opened = state / FILL_BASE;
            int filled = state % FILL_BASE;
            if (opened < 1 || opened > told) {
                return unreached;
            }
            if (filled + size <= row[opened - 1]) {
                return state + size;
            }
            if (opened < told && size <= row[opened]) {
                return (opened + 1) * FILL_BASE + size;
            }
            return unreached;
        }

        int mostNested(int n) {
            Arrays.fill(row, 1);
            int most = 1;
            for (int round = 0; round < n; round++) {
                for (int upper = 0; upper < n; upper++) {
                    for (int under = 0; under < n; under++) {
                        if (goesUnder(under, upper)) {
                            row[upper] = Math.max(row[upper], row[under] + 1);
                            most = Math.max(most, row[upper]);
                        }
                    }
                }
            }
            return most;
        }

        private boolean goesUnder(int under, int upper) {
            return tape.at(2 * under) < tape.at(2 * upper) && tape.at(2 * under + 1) < tape.at(2 * upper + 1);
        }

        int longestRising(int n) {
            int longest = 0;
            for (int k = 0; k < n; k++) {
                row[k] = 1;
                for (int ahead = 0; ahead < k; ahead++) {
                    if (tape.at(ahead) <= tape.at(k)) {
                        row[k] = Math.max(row[k], row[ahead] + 1);
                    }
                }
                longest = Math.max(longest, row[k]);
            }
            return longest;
        }

        int balancePlace(int n) {
            int weight = 0;
            int moment = 0;
            for (int k = 0; k < n; k++) {
                weight += tape.at(2 * k + 1);
                moment += tape.at(2 * k) * tape.at(2 * k + 1);
            }
            if (weight == 0) {
                return 0;
            }
            return moment % weight == 0 ? moment / weight : NOT_SO;
        }

        int holesFilled(int holes, int n, int what) {
            if (holes < 1 || holes > ROW) {
                return NONE;
            }
            Arrays.fill(row, 0);
            int looked = 0;
            int last = 0;
            for (int k = 0; k < n; k++) {
                last = tape.at(k) % holes;
                looked++;
                for (int step = 0; step < holes && row[last] != 0; step++) {
                    last = (last + 1) % holes;
                    looked++;
                }
                row[last] = 1;
            }
            switch (what) {
                case 0: return looked;
                case 1: return last;
                default: return longestRound(holes);
            }
        }

        private int longestRound(int holes) {
            int longest = 0;
            int run = 0;
            for (int k = 0; k < 2 * holes; k++) {
                run = row[k % holes] != 0 ? run + 1 : 0;
                longest = Math.max(longest, run);
            }
            return Math.min(longest, holes);
        }

        /** Square by square; a bit of the profile says that a plank from ahead lies on that square already. */
        int waysToPlank(int wide, int along) {
            int profiles = 1 << wide;
            Arrays.fill(ways, 0);
            ways[0] = 1;
            for (int square = 0; square < wide * along; square++) {
                Arrays.fill(nextWays, 0);
                for (int profile = 0; profile < profiles && profile < PROFILES; profile++) {
                    layOne(profile, square % wide, wide);
                }
                System.arraycopy(nextWays, 0, ways, 0, PROFILES);
            }
            return ways[0];
        }

        private void layOne(int profile, int column, int wide) {
            int here = 1 << column;
            int beside = column + 1 < wide ? here << 1 : 0;
            if ((profile & here) != 0) {
                nextWays[profile ^ here] += ways[profile];
                return;
            }
            nextWays[profile | here] += ways[profile];
            if (beside != 0 && (profile & beside) == 0) {
                nextWays[profile | beside] += ways[profile];
            }
        }

        int kingdoms(int n, int m, int what) {
            for (int k = 0; k < 2 * m; k++) {
                if (tape.at(k) < 0 || tape.at(k) >= n) {
                    return WRONG_BYTES;
                }
            }
            for (int piece = 0; piece < n; piece++) {
                row[piece] = piece;
            }
            int nothingNew = 0;
            for (int k = 0; k < m; k++) {
                int one = row[tape.at(2 * k)];
                int two = row[tape.at(2 * k + 1)];
                nothingNew += one == two ? 1 : 0;
                for (int piece = 0; piece < n; piece++) {
                    row[piece] = row[piece] == two ? one : row[piece];
                }
            }
            switch (what) {
                case 0: return n - (m - nothingNew);
                case 1: return largestKingdom(n);
                default: return nothingNew;
            }
        }

        private int largestKingdom(int n) {
            int largest = 0;
            for (int name = 0; name < n; name++) {
                int pieces = 0;
                for (int piece = 0; piece < n; piece++) {
                    pieces += row[piece] == name ? 1 : 0;
                }
                largest = Math.max(largest, pieces);
            }
            return largest;
        }

        int heirInLine(int n, int i) {
            for (int piece = 1; piece < n; piece++) {
                if (tape.at(piece + 2) >= piece) {
                    return WRONG_BYTES;
                }
            }
            layLine(n);
            int broken = tape.at(0) << 8 | tape.at(1);
            int whole = 0;
            for (int k = 0; k < n; k++) {
                if ((broken >> row[k] & 1) == 0) {
                    if (whole == i) {
                        return row[k];
                    }
                    whole++;
                }
            }
            return TOO_MANY;
        }

        /** Writes the line into row; other holds those that still wait, the next one last. */
        private void layLine(int n) {
            int waiting = 1;
            other[0] = 0;
            for (int laid = 0; laid < n && waiting > 0; laid++) {
                waiting--;
                int piece = other[waiting];
                row[laid] = piece;
                for (int child = n - 1; child > piece; child--) {
                    if (tape.at(child + 2) == piece && waiting < ROW) {
                        other[waiting] = child;
                        waiting++;
                    }
                }
            }
        }

        int heardToTheEnd(int n, int which) {
            return waitOf(n, which) + tape.at(2 * which + 1);
        }

        int waitOfAll(int n) {
            int sum = 0;
            for (int k = 0; k < n; k++) {
                sum += waitOf(n, k);
            }
            return sum;
        }

        private int waitOf(int n, int which) {
            int rank = tape.at(2 * which);
            int wait = 0;
            for (int k = 0; k < n; k++) {
                int its = tape.at(2 * k);
                if (its > rank || (its == rank && k < which)) {
                    wait += tape.at(2 * k + 1);
                }
            }
            return wait;
        }

        static int strokes(int from, int to) {
            int sum = 0;
            for (int minute = from; minute <= to; minute++) {
                if (minute % 60 == 30) {
                    sum++;
                } else if (minute % 60 == 0) {
                    int hour = minute / 60 % 12;
                    sum += hour == 0 ? 12 : hour;
                }
            }
            return sum;
        }
    }
}
