import java.util.Arrays;

/**
 * Rates of duty in text: read into a tree, printed in one way, worked out exactly in micros
 * (millionths of a cent) and rounded once.
 */
public final class RateShapes {
    public static final int NONE = -1;

    private static final int FREE = 0;
    private static final int SHARE = 1;
    private static final int BY_UNIT = 2;
    private static final int SUM = 3;
    private static final int DIFFERENCE = 4;
    private static final int LEAST = 5;
    private static final int GREATEST = 6;
    private static final int STEPS = 7;

    private static final int MOST_SIGNS = 300;
    private static final int MOST_NODES = 60;
    private static final int MOST_DEEP = 12;
    private static final int MOST_ROWS = 6;
    private static final int UNITS = 8;
    private static final int MOST_TIMES = 1000;
    private static final long MOST_PRICE = 100000000L;
    private static final long MOST_AMOUNT = 100000000L;
    private static final long MOST_STEP_MONEY = 1000000000L;
    private static final long MICROS_IN_CENT = 1000000L;
    // A sign that is read is printed as three at most (" + " for "+"), so this is never full.
    private static final int MOST_PRINTED = 3 * MOST_SIGNS;

    private final Tree tree;
    private final Reader reader;
    private final Units units;
    private final Values values;
    private final Printer printer;
    private long price;

    public RateShapes() {
        tree = new Tree();
        reader = new Reader(tree);
        units = new Units();
        values = new Values();
        printer = new Printer();
        price = 0;
    }

    public boolean sign(int c) {
        return reader.takeSign(c);
    }

    public int read() {
        return reader.readText();
    }

    public boolean price(long cents) {
        if (cents < 0 || cents > MOST_PRICE) {
            return false;
        }
        price = cents;
        return true;
    }

    public boolean amount(int unit, long thousandths) {
        return units.setAmount(unit, thousandths);
    }

    public boolean convert(int unit, int to, int times) {
        return units.setConversion(unit, to, times);
    }

    public long value(int side)
            throws IllegalArgumentException, IllegalStateException, UnsupportedOperationException {
        if (side != 0 && side != 1) {
            throw new IllegalArgumentException("no such side");
        }
        long micros = rateInMicros();
        long common = commonDivisor(micros, MICROS_IN_CENT);
        return side == 0 ? micros / common : MICROS_IN_CENT / common;
    }

    public long cents(int rule)
            throws IllegalArgumentException, IllegalStateException, UnsupportedOperationException {
        if (rule < 0 || rule > 3) {
            throw new IllegalArgumentException("no such rule");
        }
        long micros = rateInMicros();
        switch (rule) {
            case 0:
                return micros / MICROS_IN_CENT;
            case 1:
                return (micros + MICROS_IN_CENT / 2) / MICROS_IN_CENT;
            case 2:
                return (micros + MICROS_IN_CENT - 1) / MICROS_IN_CENT;
            default:
                return micros / (10 * MICROS_IN_CENT) * 10;
        }
    }

    public int node(int i, int what) throws IndexOutOfBoundsException {
        if (!tree.has(i)) {
            throw new IndexOutOfBoundsException("no such node");
        }
        switch (what) {
            case 0:
                return tree.kinds[i];
            case 1:
                return tree.numbers[i];
            case 2:
                return tree.unitsOf[i];
            case 3:
                return tree.lefts[i];
            case 4:
                return tree.rights[i];
            case 5:
                return tree.rowCounts[i];
            default:
                throw new IndexOutOfBoundsException("no such what");
        }
    }

    public long part(int i) throws IndexOutOfBoundsException, UnsupportedOperationException {
        if (!tree.has(i)) {
            throw new IndexOutOfBoundsException("no such node");
        }
        return nodeInMicros(i);
    }

    public int missing(int i) {
        if (i < 0) {
            return NONE;
        }
        int ahead = i;
        for (int unit = 0; unit < UNITS; unit++) {
            if (tree.names(unit) && units.amountOf(unit) == NONE) {
                if (ahead == 0) {
                    return unit;
                }
                ahead--;
            }
        }
        return NONE;
    }

    public int print() throws IllegalStateException {
        if (tree.size == 0) {
            throw new IllegalStateException("no tree");
        }
        return printer.printTree(tree);
    }

    public int at(int i) throws IndexOutOfBoundsException {
        if (i < 0 || i >= printer.length) {
            throw new IndexOutOfBoundsException("no such sign");
        }
        return printer.signs[i];
    }

    public long step(long entry, long price) throws IllegalArgumentException, ArithmeticException {
        if (entry < 0 || entry > MOST_STEP_MONEY || price < 0 || price > MOST_STEP_MONEY) {
            throw new IllegalArgumentException("not 0 .. 1000000000");
        }
        if (price == 0) {
            throw new ArithmeticException("price 0");
        }
        return entry * 100 / price;
    }

    public int count(int what) {
        switch (what) {
            case 0:
                return reader.length;
            case 1:
                return tree.size;
            case 2:
                return printer.length;
            case 3:
                return tree.deepest;
            default:
                return NONE;
        }
    }

    private long rateInMicros() {
        if (tree.size == 0) {
            throw new IllegalStateException("no tree");
        }
        return Math.max(0L, nodeInMicros(0));
    }

    private long nodeInMicros(int i) {
        values.workOut(tree, units, price);
        if (!values.known[i]) {
            throw new UnsupportedOperationException("a unit has no amount, or too much");
        }
        return values.micros[i];
    }

    /** The greatest common divisor; the second number is above 0, so the answer is, too. */
    private static long commonDivisor(long a, long b) {
        long more = a;
        long less = b;
        // Euclid needs under 100 turns for any two longs.
        for (int turn = 0; turn < 100 && less != 0; turn++) {
            long rest = more % less;
            more = less;
            less = rest;
        }
        return more > 0 ? more : 1;
    }

    /**
     * The nodes, side by side in rows that are made once. They stand in the order of their
     * numbers at every moment of the reading, so that nothing has to be numbered anew.
     */
    private static final class Tree {
        final int[] kinds = new int[MOST_NODES];
        final int[] numbers = new int[MOST_NODES];
        final int[] unitsOf = new int[MOST_NODES];
        final int[] lefts = new int[MOST_NODES];
        final int[] rights = new int[MOST_NODES];
        final int[] firstRows = new int[MOST_NODES];
        final int[] rowCounts = new int[MOST_NODES];
        // A row takes more than one sign of the text, so there are never more rows than signs.
        final int[] rowBounds = new int[MOST_SIGNS];
        final int[] rowCents = new int[MOST_SIGNS];
        int rowsInAll;
        int size;
        int deepest;

        void clear() {
            rowsInAll = 0;
            size = 0;
            deepest = 0;
        }

        boolean isFull() {
            return size >= MOST_NODES;
        }

        boolean has(int i) {
            return i >= 0 && i < size;
        }

        boolean names(int unit) {
            for (int i = 0; i < size; i++) {
                if (kinds[i] == BY_UNIT && unitsOf[i] == unit) {
                    return true;
                }
            }
            return false;
        }

        /** Adds a node behind the others; NONE if there is no room. */
        int addNode(int kind, int number, int unit) {
            if (isFull()) {
                return NONE;
            }
            int i = size;
            size++;
            setNode(i, kind, number, unit);
            return i;
        }

        /** Puts a node ahead of all from first on: + and - are seen only behind their left side. */
        void putAhead(int first, int kind) {
            if (isFull() || !has(first)) {
                return;
            }
            for (int i = size; i > first; i--) {
                moveBack(i);
            }
            size++;
            setNode(first, kind, 0, NONE);
        }

        void reachDeep(int deep) {
            deepest = Math.max(deepest, deep);
        }

        void setNumber(int i, int number) {
            if (has(i)) {
                numbers[i] = number;
            }
        }

        void setSides(int i, int left, int right) {
            if (has(i)) {
                lefts[i] = left;
                rights[i] = right;
            }
        }

        void addRow(int i, int bound, int cents) {
            if (!has(i) || rowsInAll >= MOST_SIGNS) {
                return;
            }
            if (rowCounts[i] == 0) {
                firstRows[i] = rowsInAll;
            }
            rowBounds[rowsInAll] = bound;
            rowCents[rowsInAll] = cents;
            rowsInAll++;
            rowCounts[i]++;
        }

        private void setNode(int i, int kind, int number, int unit) {
            kinds[i] = kind;
            numbers[i] = number;
            unitsOf[i] = unit;
            lefts[i] = NONE;
            rights[i] = NONE;
            firstRows[i] = 0;
            rowCounts[i] = 0;
        }

        /** What stands below a node that moves moves with it. */
        private void moveBack(int to) {
            int from = to - 1;
            kinds[to] = kinds[from];
            numbers[to] = numbers[from];
            unitsOf[to] = unitsOf[from];
            lefts[to] = lefts[from] == NONE ? NONE : lefts[from] + 1;
            rights[to] = rights[from] == NONE ? NONE : rights[from] + 1;
            firstRows[to] = firstRows[from];
            rowCounts[to] = rowCounts[from];
        }
    }

    /**
     * Holds the text and reads it from the left. A method that reads answers whether all was well;
     * the first that refuses sets the bad place, and all that called it end at once.
     */
    private static final class Reader {
        private final Tree tree;
        private final int[] text = new int[MOST_SIGNS];
        int length;
        private int place;
        private int badPlace;

        Reader(Tree tree) {
            this.tree = tree;
        }

        boolean takeSign(int c) {
            if (c < 32 || c > 126 || length >= MOST_SIGNS) {
                return false;
            }
            text[length] = c;
            length++;
            return true;
        }

        int readText() {
            tree.clear();
            place = 0;
            badPlace = 0;
            boolean well = readRate(0) && readEnd();
            length = 0;
            if (well) {
                return tree.size;
            }
            tree.clear();
            return -1 - badPlace;
        }

        private boolean readEnd() {
            skipBlanks();
            return place >= length || refuse(place);
        }

        private boolean readRate(int deep) {
            int first = tree.size;
            if (!readPart(deep)) {
                return false;
            }
            for (int turn = 0; turn < MOST_SIGNS; turn++) {
                skipBlanks();
                int kind = kindOfSign(signHere());
                if (kind == NONE) {
                    return true;
                }
                if (tree.isFull()) {
                    return refuse(place);
                }
                tree.putAhead(first, kind);
                tree.setSides(first, first + 1, tree.size);
                place++;
                if (!readPart(deep)) {
                    return false;
                }
            }
            return refuse(place);
        }

        private boolean readPart(int deep) {
            skipBlanks();
            int first = place;
            int c = signHere();
            if (c == '(') {
                return readBracket(deep);
            }
            if (c >= '0' && c <= '9') {
                return readNumberPart();
            }
            int kind = readWord();
            boolean nests = kind == LEAST || kind == GREATEST;
            if (kind == NONE || tree.isFull() || nests && deep >= MOST_DEEP) {
                return refuse(first);
            }
            int i = tree.addNode(kind, 0, NONE);
            if (nests) {
                return readTwoRates(i, deep + 1);
            }
            return kind == FREE || readEntry(i) && readRows(i) && readSign(')');
        }

        private boolean readNumberPart() {
            int first = place;
            int number = readNumber();
            if (number == NONE || tree.isFull()) {
                return refuse(first);
            }
            skipBlanks();
            if (signHere() == '%') {
                place++;
                return tree.addNode(SHARE, number, NONE) != NONE;
            }
            if (!readSign('/')) {
                return false;
            }
            skipBlanks();
            int unit = signHere() - 'A';
            if (unit < 0 || unit >= UNITS) {
                return refuse(place);
            }
            place++;
            return tree.addNode(BY_UNIT, number, unit) != NONE;
        }

        private boolean readBracket(int deep) {
            if (deep >= MOST_DEEP) {
                return refuse(place);
            }
            place++;
            tree.reachDeep(deep + 1);
            return readRate(deep + 1) && readSign(')');
        }

        private boolean readTwoRates(int i, int deep) {
            tree.reachDeep(deep);
            if (!readSign('(') || !readRate(deep) || !readSign(',')) {
                return false;
            }
            tree.setSides(i, i + 1, tree.size);
            return readRate(deep) && readSign(')');
        }

        private boolean readEntry(int i) {
            if (!readSign('(')) {
                return false;
            }
            int entry = readWhole();
            if (entry == NONE) {
                return false;
            }
            tree.setNumber(i, entry);
            return readSign(':');
        }

        private boolean readRows(int i) {
            int last = NONE;
            // One turn more than there may be rows: the seventh is refused only behind its own faults.
            for (int row = 0; row <= MOST_ROWS; row++) {
                skipBlanks();
                int first = place;
                int bound = readWhole();
                if (bound == NONE || !readSign('=')) {
                    return false;
                }
                int cents = readWhole();
                if (cents == NONE) {
                    return false;
                }
                if (row == MOST_ROWS || bound <= last) {
                    return refuse(first);
                }
                tree.addRow(i, bound, cents);
                last = bound;
                skipBlanks();
                if (signHere() != ',') {
                    return true;
                }
                place++;
            }
            return refuse(place);
        }

        /** 1 to 6 digits; NONE, with the bad place set, if there is no such number. */
        private int readWhole() {
            skipBlanks();
            int first = place;
            skipDigits();
            int digits = place - first;
            if (digits < 1 || digits > 6) {
                refuse(first);
                return NONE;
            }
            return digitsFrom(first);
        }

        /** A number in thousandths; NONE if it is none or too long. */
        private int readNumber() {
            int first = place;
            skipDigits();
            int digits = place - first;
            if (digits < 1 || digits > 5) {
                return NONE;
            }
            int number = digitsFrom(first) * 1000;
            if (signHere() != '.') {
                return number;
            }
            place++;
            int behind = place;
            skipDigits();
            switch (place - behind) {
                case 1:
                    return number + digitsFrom(behind) * 100;
                case 2:
                    return number + digitsFrom(behind) * 10;
                case 3:
                    return number + digitsFrom(behind);
                default:
                    return NONE;
            }
        }

        private boolean readSign(int c) {
            skipBlanks();
            if (signHere() != c) {
                return refuse(place);
            }
            place++;
            return true;
        }

        private int digitsFrom(int first) {
            int number = 0;
            for (int i = first; i < place; i++) {
                number = number * 10 + (text[i] - '0');
            }
            return number;
        }

        /** The kind of node that the word here makes; NONE if it is no word of a rate. */
        private int readWord() {
            int first = place;
            while (place < length && text[place] >= 'a' && text[place] <= 'z') {
                place++;
            }
            if (isWord(first, "free")) {
                return FREE;
            }
            if (isWord(first, "min")) {
                return LEAST;
            }
            if (isWord(first, "max")) {
                return GREATEST;
            }
            return isWord(first, "step") ? STEPS : NONE;
        }

        private boolean isWord(int first, String word) {
            if (place - first != word.length()) {
                return false;
            }
            for (int i = first; i < place; i++) {
                if (text[i] != word.charAt(i - first)) {
                    return false;
                }
            }
            return true;
        }

        private boolean refuse(int where) {
            badPlace = where;
            return false;
        }

        private int signHere() {
            return place < length ? text[place] : NONE;
        }

        private void skipBlanks() {
            while (place < length && text[place] == ' ') {
                place++;
            }
        }

        private void skipDigits() {
            while (place < length && text[place] >= '0' && text[place] <= '9') {
                place++;
            }
        }

        private static int kindOfSign(int c) {
            if (c == '+') {
                return SUM;
            }
            return c == '-' ? DIFFERENCE : NONE;
        }
    }

    /** The amounts of the units and how one is converted to another; times 0: it is not. */
    private static final class Units {
        private final long[] amounts = new long[UNITS];
        private final int[] targets = new int[UNITS];
        private final int[] times = new int[UNITS];

        Units() {
            Arrays.fill(amounts, NONE);
        }

        boolean setAmount(int unit, long thousandths) {
            boolean fits = thousandths >= 0 && thousandths <= MOST_AMOUNT;
            if (!isUnit(unit) || !fits && thousandths != NONE) {
                return false;
            }
            amounts[unit] = thousandths;
            return true;
        }

        boolean setConversion(int unit, int to, int many) {
            if (!isUnit(unit) || !isUnit(to) || many < 0 || many > MOST_TIMES) {
                return false;
            }
            if (many > 0 && leadsTo(to, unit)) {
                return false;
            }
            targets[unit] = to;
            times[unit] = many;
            return true;
        }

        /**
         * The amount in thousandths, its own ahead of a converted one; NONE without. What is above
         * the greatest amount may be told as any number above it, which keeps it within a long.
         */
        long amountOf(int unit) {
            long factor = 1;
            int here = unit;
            for (int turn = 0; turn < UNITS; turn++) {
                if (!isUnit(here)) {
                    return NONE;
                }
                if (amounts[here] != NONE) {
                    return amounts[here] * factor;
                }
                if (times[here] == 0) {
                    return NONE;
                }
                factor = Math.min(factor * times[here], MOST_AMOUNT + 1);
                here = targets[here];
            }
            return NONE;
        }

        private boolean leadsTo(int from, int end) {
            int here = from;
            // A chain without a ring has no unit twice.
            for (int turn = 0; turn < UNITS && here != end; turn++) {
                if (times[here] == 0) {
                    return false;
                }
                here = targets[here];
            }
            return here == end;
        }

        private static boolean isUnit(int unit) {
            return unit >= 0 && unit < UNITS;
        }
    }

    /**
     * The values of all nodes in micros. Thirty leaves at most, each below 10 to the 17th, stay
     * within a long.
     */
    private static final class Values {
        final long[] micros = new long[MOST_NODES];
        final boolean[] known = new boolean[MOST_NODES];

        /** Goes from the last node to the first, as those below a node have the higher numbers. */
        void workOut(Tree tree, Units units, long price) {
            for (int i = tree.size - 1; i >= 0; i--) {
                known[i] = true;
                switch (tree.kinds[i]) {
                    case FREE:
                        micros[i] = 0;
                        break;
                    case SHARE:
                        // A thousandth of a hundredth of a cent is ten micros.
                        micros[i] = price * tree.numbers[i] * 10;
                        break;
                    case BY_UNIT:
                        workOutUnits(i, tree.numbers[i], units.amountOf(tree.unitsOf[i]));
                        break;
                    case STEPS:
                        micros[i] = centsOfSteps(tree, i, price) * MICROS_IN_CENT;
                        break;
                    default:
                        workOutSides(i, tree.kinds[i], tree.lefts[i], tree.rights[i]);
                        break;
                }
            }
        }

        private void workOutUnits(int i, long number, long amount) {
            known[i] = amount >= 0 && amount <= MOST_AMOUNT;
            // A thousandth of a cent by a thousandth of a unit is one micro.
            micros[i] = known[i] ? number * amount : 0;
        }

        private void workOutSides(int i, int kind, int left, int right) {
            if (left <= i || left >= MOST_NODES || right <= i || right >= MOST_NODES) {
                known[i] = false;
                return;
            }
            long a = micros[left];
            long b = micros[right];
            known[i] = known[left] && known[right];
            switch (kind) {
                case SUM:
                    micros[i] = a + b;
                    break;
                case DIFFERENCE:
                    micros[i] = a - b;
                    break;
                case LEAST:
                    micros[i] = Math.min(a, b);
                    break;
                default:
                    micros[i] = Math.max(a, b);
                    break;
            }
        }

        private static long centsOfSteps(Tree tree, int i, long price) {
            int first = tree.firstRows[i];
            int end = first + tree.rowCounts[i];
            long entry = tree.numbers[i];
            long cents = 0;
            for (int row = first; row < end && row < MOST_SIGNS; row++) {
                if (price == 0 || tree.rowBounds[row] <= entry * 100 / price) {
                    cents = tree.rowCents[row];
                }
            }
            return cents;
        }
    }

    /** What was printed last, and how it is printed. */
    private static final class Printer {
        final int[] signs = new int[MOST_PRINTED];
        int length;

        int printTree(Tree tree) {
            length = 0;
            putNode(tree, 0, 0);
            return length;
        }

        private void putNode(Tree tree, int i, int deep) {
            // A tree of so few nodes is never deeper than that.
            if (!tree.has(i) || deep >= MOST_NODES) {
                return;
            }
            switch (tree.kinds[i]) {
                case FREE:
                    putText("free");
                    break;
                case SHARE:
                    putNumber(tree.numbers[i]);
                    putSign('%');
                    break;
                case BY_UNIT:
                    putNumber(tree.numbers[i]);
                    putSign('/');
                    putSign('A' + tree.unitsOf[i]);
                    break;
                case SUM:
                    putSides(tree, i, " + ", deep);
                    break;
                case DIFFERENCE:
                    putSides(tree, i, " - ", deep);
                    break;
                case LEAST:
                    putTwoRates(tree, i, "min(", deep);
                    break;
                case GREATEST:
                    putTwoRates(tree, i, "max(", deep);
                    break;
                default:
                    putSteps(tree, i);
                    break;
            }
        }

        private void putSides(Tree tree, int i, String between, int deep) {
            putNode(tree, tree.lefts[i], deep + 1);
            putText(between);
            int right = tree.rights[i];
            boolean bracket = tree.has(right)
                    && (tree.kinds[right] == SUM || tree.kinds[right] == DIFFERENCE);
            if (bracket) {
                putSign('(');
            }
            putNode(tree, right, deep + 1);
            if (bracket) {
                putSign(')');
            }
        }

        private void putTwoRates(Tree tree, int i, String opening, int deep) {
            putText(opening);
            putNode(tree, tree.lefts[i], deep + 1);
            putText(", ");
            putNode(tree, tree.rights[i], deep + 1);
            putSign(')');
        }

        private void putSteps(Tree tree, int i) {
            putText("step(");
            putWhole(tree.numbers[i]);
            int first = tree.firstRows[i];
            int end = first + tree.rowCounts[i];
            for (int row = first; row < end && row < MOST_SIGNS; row++) {
                putText(row == first ? ": " : ", ");
                putWhole(tree.rowBounds[row]);
                putSign('=');
                putWhole(tree.rowCents[row]);
            }
            putSign(')');
        }

        private void putNumber(int thousandths) {
            putWhole(thousandths / 1000);
            int rest = thousandths % 1000;
            if (rest == 0) {
                return;
            }
            putSign('.');
            for (int digit = 0; digit < 3 && rest != 0; digit++) {
                putSign('0' + rest / 100);
                rest = rest % 100 * 10;
            }
        }

        /** A number of six digits at most. */
        private void putWhole(int number) {
            for (int worth = 100000; worth >= 1; worth /= 10) {
                if (number >= worth || worth == 1) {
                    putSign('0' + number / worth % 10);
                }
            }
        }

        private void putText(String text) {
            for (int i = 0; i < text.length(); i++) {
                putSign(text.charAt(i));
            }
        }

        private void putSign(int c) {
            if (length < MOST_PRINTED) {
                signs[length] = c;
                length++;
            }
        }
    }
}
