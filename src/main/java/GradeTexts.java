import java.util.Arrays;

/** Steel grades read from a text: spans, parents, formulas, limits and routes (see README.md). */
public final class GradeTexts {
    private static final int NONE = -1;
    private static final int ELEMENTS = 8;
    private static final int KINDS = 4;
    private static final int GRADES = 30;
    private static final int ROUTES = 8;
    private static final int MOST_ROUTES = 4;
    private static final int ENDS = 2;
    private static final int PARTS = 2;
    private static final int MOST_DIVISOR = 20;
    private static final int MOST_SHARE = 100_000;
    private static final int MOST_LIMIT = 999_999;
    private static final int MOST_DIGITS = 6;
    private static final int MOST_BYTES = 8;
    private static final int TAPE_ROOM = 400;
    // "g30<30" has 6 bytes, 8 spans have 14 each, "r" and 4 routes 5, 4 limits 9 each, and ";" 1.
    private static final int PRINT_ROOM = 160;
    // The least number that all divisors 1 .. 20 divide: over it every equivalent is a whole number.
    private static final long COMMON = 232_792_560L;
    // Euclid needs fewer than 50 steps for numbers of the size of COMMON.
    private static final int EUCLID_STEPS = 100;

    private final Tape tape;
    private final Reader reader;
    private final Page page;
    private final int[] shares;
    private final int[] ends;
    private Book book;
    // A text is read into the spare book, so that a wrong one leaves the grades as they were.
    private Book spare;

    public GradeTexts() {
        tape = new Tape();
        reader = new Reader(tape);
        page = new Page();
        shares = new int[ELEMENTS];
        ends = new int[ELEMENTS];
        book = new Book();
        spare = new Book();
    }

    public int sign(long bytes, int n) throws IllegalArgumentException, UnsupportedOperationException {
        if (n < 1 || n > MOST_BYTES) {
            throw new IllegalArgumentException("1 to 8 bytes");
        }
        if (!tape.hasRoom(n)) {
            throw new UnsupportedOperationException("a tape has at most 400 bytes");
        }
        return tape.append(bytes, n);
    }

    public int read() {
        spare.forget();
        boolean right = reader.text(spare);
        tape.empty();
        if (!right) {
            return -1 - tape.wrongPlace();
        }
        spare.settle();
        Book old = book;
        book = spare;
        spare = old;
        return book.count();
    }

    public int span(int grade, int element, int end) throws IndexOutOfBoundsException {
        needGrade(grade);
        needBelow(element, ELEMENTS);
        needBelow(end, ENDS);
        return book.endOf(grade, element, end);
    }

    public int limit(int grade, int kind) throws IndexOutOfBoundsException {
        needGrade(grade);
        needBelow(kind, KINDS);
        return book.limitOf(grade, kind);
    }

    public long equivalent(int grade, int kind, int end, int part)
            throws IndexOutOfBoundsException, IllegalStateException {
        needGrade(grade);
        needBelow(kind, KINDS);
        needBelow(end, ENDS);
        needBelow(part, PARTS);
        needFormula(kind);
        book.copyEnds(grade, end, ends);
        return inLowestTerms(book.scaledSum(kind, ends), part);
    }

    public void share(int element, int v) throws IndexOutOfBoundsException, IllegalArgumentException {
        needBelow(element, ELEMENTS);
        if (v < 0 || v > MOST_SHARE) {
            throw new IllegalArgumentException("a share is 0 to 100,000");
        }
        shares[element] = v;
    }

    public long value(int kind, int part) throws IndexOutOfBoundsException, IllegalStateException {
        needBelow(kind, KINDS);
        needBelow(part, PARTS);
        needFormula(kind);
        return inLowestTerms(book.scaledSum(kind, shares), part);
    }

    public int fits(int grade) throws IndexOutOfBoundsException {
        needGrade(grade);
        for (int element = 0; element < ELEMENTS; element++) {
            int v = shares[element];
            if (v < book.endOf(grade, element, 0) || v > book.endOf(grade, element, 1)) {
                return element;
            }
        }
        int kind = book.firstKindAbove(grade, shares);
        return kind == NONE ? NONE : ELEMENTS + kind;
    }

    public boolean holds(int grade, int other) throws IndexOutOfBoundsException {
        needGrade(grade);
        needGrade(other);
        for (int element = 0; element < ELEMENTS; element++) {
            if (book.endOf(other, element, 0) < book.endOf(grade, element, 0)
                    || book.endOf(other, element, 1) > book.endOf(grade, element, 1)) {
                return false;
            }
        }
        book.copyEnds(other, 1, ends);
        return book.firstKindAbove(grade, ends) == NONE;
    }

    public int ring(int k) throws IndexOutOfBoundsException {
        needPlace(k);
        int left = k;
        for (int grade = 1; grade <= GRADES; grade++) {
            if (book.onRing(grade)) {
                if (left == 0) {
                    return grade;
                }
                left--;
            }
        }
        return NONE;
    }

    public int route(int grade, int k) throws IndexOutOfBoundsException {
        needGrade(grade);
        needPlace(k);
        int routes = book.routesOf(grade);
        int left = k;
        for (int route = 0; route < ROUTES; route++) {
            if (hasBit(routes, route)) {
                if (left == 0) {
                    return route;
                }
                left--;
            }
        }
        return NONE;
    }

    public int difference(int a, int b, int k) throws IndexOutOfBoundsException {
        needGrade(a);
        needGrade(b);
        needPlace(k);
        int left = k;
        for (int element = 0; element < ELEMENTS; element++) {
            if (book.endOf(a, element, 0) != book.endOf(b, element, 0)
                    || book.endOf(a, element, 1) != book.endOf(b, element, 1)) {
                if (left == 0) {
                    return element;
                }
                left--;
            }
        }
        return NONE;
    }

    public int write(int grade) throws IndexOutOfBoundsException {
        needGrade(grade);
        page.start();
        book.printRow(grade, page);
        return page.length();
    }

    public int at(int i) throws IndexOutOfBoundsException {
        needPlace(i);
        return page.byteAt(i);
    }

    public void clear() {
        tape.empty();
        book.forget();
        Arrays.fill(shares, 0);
    }

    private void needGrade(int grade) {
        if (!book.knows(grade)) {
            throw new IndexOutOfBoundsException("no such grade");
        }
    }

    private static void needBelow(int index, int bound) {
        if (index < 0 || index >= bound) {
            throw new IndexOutOfBoundsException("no such element, kind, end or part");
        }
    }

    private static void needPlace(int k) {
        if (k < 0) {
            throw new IndexOutOfBoundsException("below 0");
        }
    }

    private void needFormula(int kind) {
        if (!book.hasFormula(kind)) {
            throw new IllegalStateException("the kind has no formula");
        }
    }

    private static long inLowestTerms(long scaled, int part) {
        long divisor = greatestDivisor(scaled, COMMON);
        if (divisor < 1) {
            return 0;
        }
        return (part == 0 ? scaled : COMMON) / divisor;
    }

    private static long greatestDivisor(long a, long b) {
        long greater = a;
        long smaller = b;
        for (int step = 0; step < EUCLID_STEPS && smaller != 0; step++) {
            long rest = greater % smaller;
            greater = smaller;
            smaller = rest;
        }
        return greater;
    }

    private static boolean hasBit(int bits, int bit) {
        return (bits & (1 << bit)) != 0;
    }

    private static boolean isDigit(int sign) {
        return sign >= '0' && sign <= '9';
    }

    private static boolean isElement(int sign) {
        return sign >= 'A' && sign < 'A' + ELEMENTS;
    }

    /** The bytes that are told, and how far they have been read; a refused reading notes the place. */
    private static final class Tape {
        private final int[] signs = new int[TAPE_ROOM];
        private int length = 0;
        private int place = 0;
        private int wrong = 0;

        boolean hasRoom(int n) {
            return n <= TAPE_ROOM - length;
        }

        int append(long bytes, int n) {
            for (int left = n - 1; left >= 0 && length < TAPE_ROOM; left--) {
                signs[length] = (int) ((bytes >>> (8 * left)) & 255L);
                length++;
            }
            return length;
        }

        void empty() {
            length = 0;
        }

        void rewind() {
            place = 0;
        }

        int wrongPlace() {
            return wrong;
        }

        boolean refuse() {
            wrong = place;
            return false;
        }

        boolean refuseLast() {
            wrong = place - 1;
            return false;
        }

        int here() {
            return place < length ? signs[place] : NONE;
        }

        /** The next sign behind blanks (not taken yet), NONE at the end. */
        int next() {
            while (place < length && signs[place] == ' ') {
                place++;
            }
            return place < length ? signs[place] : NONE;
        }

        boolean skipIf(int sign) {
            if (next() != sign) {
                return false;
            }
            place++;
            return true;
        }

        boolean take(int sign) {
            if (next() != sign) {
                return refuse();
            }
            place++;
            return true;
        }

        /** Takes one of count signs in a row, the first one given: which, or NONE when refused. */
        int takeOneOf(int first, int count) {
            int which = next() - first;
            if (which < 0 || which >= count) {
                refuse();
                return NONE;
            }
            place++;
            return which;
        }

        /** Takes a number between the two, or answers NONE when it is refused. */
        int number(int least, int most) {
            if (!isDigit(next())) {
                refuse();
                return NONE;
            }
            int number = 0;
            for (int digits = 0; digits < MOST_DIGITS && isDigit(here()); digits++) {
                if (digits > 0 && number == 0) {
                    break;
                }
                number = number * 10 + here() - '0';
                place++;
            }
            // The document wants the range ahead of a digit too many, so it is looked at first.
            if (number < least || number > most) {
                refuseLast();
                return NONE;
            }
            if (isDigit(here())) {
                refuse();
                return NONE;
            }
            return number;
        }
    }

    /** Reads the rows of a tape into a book; false when they are wrong (the tape knows where). */
    private static final class Reader {
        private final Tape tape;

        Reader(Tape tape) {
            this.tape = tape;
        }

        boolean text(Book book) {
            tape.rewind();
            for (int row = 0; row < TAPE_ROOM && tape.next() != NONE; row++) {
                if (!row(book)) {
                    return false;
                }
            }
            return true;
        }

        private boolean row(Book book) {
            if (tape.skipIf('e')) {
                return formula(book) && tape.take(';');
            }
            if (tape.skipIf('g')) {
                return grade(book) && tape.take(';');
            }
            return tape.refuse();
        }

        private boolean formula(Book book) {
            int kind = tape.takeOneOf('0', KINDS);
            if (kind == NONE) {
                return false;
            }
            if (book.hasFormula(kind)) {
                return tape.refuseLast();
            }
            book.tellFormula(kind);
            return tape.take('=') && terms(book, kind);
        }

        private boolean terms(Book book, int kind) {
            // A ninth term always tells an element twice, so the loop ends by itself.
            for (int terms = 0; terms <= ELEMENTS; terms++) {
                int element = tape.takeOneOf('A', ELEMENTS);
                if (element == NONE) {
                    return false;
                }
                if (book.divisorOf(kind, element) > 0) {
                    return tape.refuseLast();
                }
                int divisor = tape.skipIf('/') ? tape.number(1, MOST_DIVISOR) : 1;
                if (divisor == NONE) {
                    return false;
                }
                book.tellTerm(kind, element, divisor);
                if (!tape.skipIf('+')) {
                    return true;
                }
            }
            return tape.refuse();
        }

        private boolean grade(Book book) {
            int grade = tape.number(1, GRADES);
            if (grade == NONE) {
                return false;
            }
            if (book.knows(grade)) {
                return tape.refuseLast();
            }
            book.tellGrade(grade);
            return parent(book, grade) && spans(book, grade) && routes(book, grade) && limits(book, grade);
        }

        private boolean parent(Book book, int grade) {
            if (!tape.skipIf('<')) {
                return true;
            }
            int parent = tape.number(1, GRADES);
            if (parent == NONE) {
                return false;
            }
            book.tellParent(grade, parent);
            return true;
        }

        private boolean spans(Book book, int grade) {
            // A ninth span always tells an element twice.
            for (int spans = 0; spans <= ELEMENTS && isElement(tape.next()); spans++) {
                int element = tape.takeOneOf('A', ELEMENTS);
                if (element == NONE) {
                    return false;
                }
                if (book.tellsSpan(grade, element)) {
                    return tape.refuseLast();
                }
                int low = tape.number(0, MOST_SHARE);
                if (low == NONE || !tape.take('-')) {
                    return false;
                }
                int high = tape.number(low, MOST_SHARE);
                if (high == NONE) {
                    return false;
                }
                book.tellSpan(grade, element, low, high);
            }
            return true;
        }

        private boolean routes(Book book, int grade) {
            if (!tape.skipIf('r')) {
                return true;
            }
            int latest = NONE;
            // A fifth route is left on the tape, where no sign of a grade fits it.
            for (int routes = 0; routes < MOST_ROUTES; routes++) {
                if (routes > 0 && !isDigit(tape.next())) {
                    return true;
                }
                int route = tape.takeOneOf('0', ROUTES);
                if (route == NONE) {
                    return false;
                }
                if (route <= latest) {
                    return tape.refuseLast();
                }
                book.tellRoute(grade, route);
                latest = route;
            }
            return true;
        }

        private boolean limits(Book book, int grade) {
            // A fifth limit always tells a kind twice.
            for (int limits = 0; limits <= KINDS && tape.skipIf('q'); limits++) {
                int kind = tape.takeOneOf('0', KINDS);
                if (kind == NONE) {
                    return false;
                }
                if (book.tellsLimit(grade, kind)) {
                    return tape.refuseLast();
                }
                if (!tape.take('<')) {
                    return false;
                }
                int most = tape.number(0, MOST_LIMIT);
                if (most == NONE) {
                    return false;
                }
                book.tellLimit(grade, kind, most);
            }
            return true;
        }
    }

    /** The grades and formulas of one text; grades are 1 .. 30, so that 0 can stand for none. */
    private static final class Book {
        private final int[] toldParents = new int[GRADES + 1];
        // The parents that count: none for a grade on a ring, none that is not told.
        private final int[] parents = new int[GRADES + 1];
        private final int[] lows = new int[(GRADES + 1) * ELEMENTS];
        // NONE where a grade tells no span of an element, likewise with limits.
        private final int[] highs = new int[(GRADES + 1) * ELEMENTS];
        private final int[] limits = new int[(GRADES + 1) * KINDS];
        // Routes rise, so a bit for each one keeps their order; 0 where none are told.
        private final int[] routes = new int[GRADES + 1];
        // 0 where a formula has no term of an element.
        private final int[] divisors = new int[KINDS * ELEMENTS];
        private int grades = 0;
        private int formulas = 0;

        /** Empties the book; the rows of parents and lows are not looked at before they are told anew. */
        void forget() {
            Arrays.fill(toldParents, 0);
            Arrays.fill(highs, NONE);
            Arrays.fill(limits, NONE);
            Arrays.fill(routes, 0);
            Arrays.fill(divisors, 0);
            grades = 0;
            formulas = 0;
        }

        int count() {
            return Integer.bitCount(grades);
        }

        boolean knows(int grade) {
            return grade >= 1 && grade <= GRADES && hasBit(grades, grade);
        }

        boolean hasFormula(int kind) {
            return hasBit(formulas, kind);
        }

        int divisorOf(int kind, int element) {
            return divisors[kind * ELEMENTS + element];
        }

        boolean tellsSpan(int grade, int element) {
            return highs[grade * ELEMENTS + element] != NONE;
        }

        boolean tellsLimit(int grade, int kind) {
            return limits[grade * KINDS + kind] != NONE;
        }

        void tellFormula(int kind) {
            formulas |= 1 << kind;
        }

        void tellTerm(int kind, int element, int divisor) {
            divisors[kind * ELEMENTS + element] = divisor;
        }

        void tellGrade(int grade) {
            grades |= 1 << grade;
        }

        void tellParent(int grade, int parent) {
            toldParents[grade] = parent;
        }

        void tellSpan(int grade, int element, int low, int high) {
            lows[grade * ELEMENTS + element] = low;
            highs[grade * ELEMENTS + element] = high;
        }

        void tellRoute(int grade, int route) {
            routes[grade] |= 1 << route;
        }

        void tellLimit(int grade, int kind, int most) {
            limits[grade * KINDS + kind] = most;
        }

        /** Finds the parents that count, once all grades are told. */
        void settle() {
            for (int grade = 1; grade <= GRADES; grade++) {
                int parent = toldParents[grade];
                parents[grade] = knows(parent) && !onRing(grade) ? parent : 0;
            }
        }

        boolean onRing(int grade) {
            int ancestor = toldParents[grade];
            // A grade that is not told has no parent, so the way ends there.
            for (int step = 0; step < GRADES && ancestor > 0; step++) {
                if (ancestor == grade) {
                    return true;
                }
                ancestor = toldParents[ancestor];
            }
            return false;
        }

        int endOf(int grade, int element, int end) {
            int teller = grade;
            for (int step = 0; step < GRADES && teller > 0 && !tellsSpan(teller, element); step++) {
                teller = parents[teller];
            }
            if (teller == 0) {
                return end == 0 ? 0 : MOST_SHARE;
            }
            return end == 0 ? lows[teller * ELEMENTS + element] : highs[teller * ELEMENTS + element];
        }

        int limitOf(int grade, int kind) {
            int teller = grade;
            for (int step = 0; step < GRADES && teller > 0 && !tellsLimit(teller, kind); step++) {
                teller = parents[teller];
            }
            return teller == 0 ? NONE : limits[teller * KINDS + kind];
        }

        int routesOf(int grade) {
            int teller = grade;
            for (int step = 0; step < GRADES && teller > 0 && routes[teller] == 0; step++) {
                teller = parents[teller];
            }
            return teller == 0 ? 0 : routes[teller];
        }

        void copyEnds(int grade, int end, int[] row) {
            for (int element = 0; element < ELEMENTS && element < row.length; element++) {
                row[element] = endOf(grade, element, end);
            }
        }

        /** COMMON times the equivalent of a kind, which is a whole number. */
        long scaledSum(int kind, int[] row) {
            long sum = 0;
            for (int element = 0; element < ELEMENTS && element < row.length; element++) {
                int divisor = divisorOf(kind, element);
                if (divisor > 0) {
                    sum += row[element] * (COMMON / divisor);
                }
            }
            return sum;
        }

        /** The first kind of which the row's equivalent is above the grade's limit, or NONE. */
        int firstKindAbove(int grade, int[] row) {
            for (int kind = 0; kind < KINDS; kind++) {
                int most = limitOf(grade, kind);
                if (hasFormula(kind) && most != NONE && scaledSum(kind, row) > most * COMMON) {
                    return kind;
                }
            }
            return NONE;
        }

        void printRow(int grade, Page page) {
            page.put('g');
            page.putNumber(grade);
            if (toldParents[grade] > 0) {
                page.put('<');
                page.putNumber(toldParents[grade]);
            }
            printSpans(grade, page);
            printRoutes(grade, page);
            printLimits(grade, page);
            page.put(';');
        }

        private void printSpans(int grade, Page page) {
            for (int element = 0; element < ELEMENTS; element++) {
                if (tellsSpan(grade, element)) {
                    page.put('A' + element);
                    page.putNumber(lows[grade * ELEMENTS + element]);
                    page.put('-');
                    page.putNumber(highs[grade * ELEMENTS + element]);
                }
            }
        }

        private void printRoutes(int grade, Page page) {
            if (routes[grade] == 0) {
                return;
            }
            page.put('r');
            for (int route = 0; route < ROUTES; route++) {
                if (hasBit(routes[grade], route)) {
                    page.put('0' + route);
                }
            }
        }

        private void printLimits(int grade, Page page) {
            for (int kind = 0; kind < KINDS; kind++) {
                if (tellsLimit(grade, kind)) {
                    page.put('q');
                    page.put('0' + kind);
                    page.put('<');
                    page.putNumber(limits[grade * KINDS + kind]);
                }
            }
        }
    }

    /** The latest print. */
    private static final class Page {
        private final int[] signs = new int[PRINT_ROOM];
        private int length = 0;

        void start() {
            length = 0;
        }

        int length() {
            return length;
        }

        int byteAt(int i) {
            return i >= 0 && i < length ? signs[i] : NONE;
        }

        void put(int sign) {
            if (length < PRINT_ROOM) {
                signs[length] = sign;
                length++;
            }
        }

        /** Puts a number of at most six digits. */
        void putNumber(int number) {
            for (int power = 100_000; power > 0; power /= 10) {
                if (number >= power || power == 1) {
                    put('0' + number / power % 10);
                }
            }
        }
    }
}
