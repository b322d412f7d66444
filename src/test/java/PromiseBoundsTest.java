import java.util.function.LongSupplier;

/**
 * The boundary cases that the fifteen promises name, a method for each promise and for the sentences on
 * exceptions, with what stands on both sides of the boundary.
 */
public final class PromiseBoundsTest {
    private static final Check CHECK = new Check("PromiseBoundsTest");
    private static final int NONE = RateShapes.NONE;
    private static final long MOST = 100000000L;
    private static final long STEP_MOST = 1000000000L;
    // What would be 5 if only the low half of a long were looked at.
    private static final long WRAPPED = (1L << 32) + 5;

    public static void main(String[] args) {
        promise1();
        promise2();
        promise3();
        promise3KeepsTheRest();
        promise4();
        promise5();
        promise6Units();
        promise6Times();
        promise6Rings();
        promise7Sides();
        promise7Reduced();
        promise7TooMuch();
        promise8Rules();
        promise8Rounding();
        promise9();
        promise9ElseNone();
        promise10();
        promise11();
        promise12();
        promise13();
        promise14();
        promise15();
        firstToldIsThrown();
        whatThrowsChangesNothing();
        whatIsRefusedChangesNothing();
        call512();
        CHECK.end();
    }

    private static void throwsIndex(String call, LongSupplier run) {
        CHECK.dueThrow(call, IndexOutOfBoundsException.class, run);
    }

    private static void throwsArgument(String call, LongSupplier run) {
        CHECK.dueThrow(call, IllegalArgumentException.class, run);
    }

    private static void throwsState(String call, LongSupplier run) {
        CHECK.dueThrow(call, IllegalStateException.class, run);
    }

    private static void throwsUnsupported(String call, LongSupplier run) {
        CHECK.dueThrow(call, UnsupportedOperationException.class, run);
    }

    // No text, no tree, price 0, no amounts.

    private static void promise1() {
        RateShapes x = new RateShapes();
        for (int what = 0; what < 4; what++) {
            CHECK.due("new: count " + what, x.count(what), 0);
        }
        CHECK.due("new: missing", x.missing(0), NONE);
        throwsState("new: value", () -> x.value(0));
        throwsState("new: cents", () -> x.cents(0));
        throwsState("new: print", () -> x.print());
        throwsIndex("new: node", () -> x.node(0, 0));
        throwsIndex("new: part", () -> x.part(0));
        throwsIndex("new: at", () -> x.at(0));
        CHECK.due("new: no text to read", x.read(), -1);
        RateShapes y = Check.withTree("1/A+1/B+1/C+1/D+1/E+1/F+1/G+1/H+100%");
        CHECK.due("new: price 0", y.part(16), 0);
        for (int unit = 0; unit < 8; unit++) {
            CHECK.due("new: no amount of " + unit, y.missing(unit), unit);
        }
    }

    // false if it is not 32 .. 126, or there are 300.

    private static void promise2() {
        for (int c = -2; c <= 300; c++) {
            CHECK.due("sign " + c, new RateShapes().sign(c), c >= 32 && c <= 126);
        }
        for (int c : new int[] {Integer.MIN_VALUE, Integer.MAX_VALUE, 65536 + 49, (1 << 30) + 49}) {
            CHECK.due("sign " + c, new RateShapes().sign(c), false);
        }
        RateShapes x = new RateShapes();
        for (int i = 0; i < 300; i++) {
            CHECK.due("sign at " + i, x.sign(126), true);
            if (i % 50 == 0) {
                CHECK.due("no sign at " + i, x.sign(127), false);
            }
        }
        CHECK.due("the 301st", x.sign(126), false);
        CHECK.due("signs", x.count(0), 300);
    }

    // The text is read, and used up: how many nodes the tree has; else -1 minus the least bad place.

    private static void promise3() {
        RateShapes x = new RateShapes();
        CHECK.due("nothing", x.read(), -1);
        CHECK.due("one node", Check.read(x, "free"), 1);
        CHECK.due("used up", x.count(0), 0);
        CHECK.due("a tree", x.count(1), 1);
        CHECK.due("used up: nothing to read", x.read(), -1);
        CHECK.due("then there is no tree", x.count(1), 0);
        CHECK.due("bad at 0", Check.read(x, "x"), -1);
        CHECK.due("bad at 2", Check.read(x, "1%x"), -3);
        CHECK.due("used up, too", x.count(0), 0);
        CHECK.due("59 nodes", Check.read(x, "0%+".repeat(29) + "0%"), 59);
        CHECK.due("signs of the next text", x.sign('x'), true);
        CHECK.due("leave the tree", x.count(1), 59);
        CHECK.due("bad", x.read(), -1);
        for (int what = 0; what < 4; what++) {
            CHECK.due("no tree: count " + what, x.count(what), 0);
        }
        throwsIndex("no tree: node", () -> x.node(0, 0));
        throwsIndex("no tree: part", () -> x.part(0));
        throwsState("no tree: value", () -> x.value(0));
        throwsState("no tree: print", () -> x.print());
        RateShapes full = new RateShapes();
        CHECK.due("bad at 300", Check.read(full, "1" + " ".repeat(299)), -301);
    }

    private static void promise3KeepsTheRest() {
        RateShapes x = Check.withTree("1%");
        x.price(100);
        x.amount(0, 1000);
        x.convert(1, 0, 3);
        x.print();
        Check.read(x, "x");
        CHECK.due("what was printed stays", x.count(2), 2);
        Check.read(x, "100% + 1/A + 1/B");
        CHECK.due("price, amount and conversion stay", x.cents(0), 104);
    }

    // false if it is not 0 .. 100000000.

    private static void promise4() {
        RateShapes x = Check.withTree("100%");
        for (long cents : new long[] {0, 1, 5, MOST - 1, MOST}) {
            CHECK.due("price " + cents, x.price(cents), true);
            CHECK.due("cents at " + cents, x.cents(0), cents);
        }
        x.price(7);
        for (long cents : new long[] {-1, -2, MOST + 1, WRAPPED, Long.MIN_VALUE, Long.MAX_VALUE}) {
            CHECK.due("price " + cents, x.price(cents), false);
            CHECK.due("the price stays", x.cents(0), 7);
        }
    }

    // false if there is no such unit, or it is not 0 .. 100000000 (or NONE).

    private static void promise5() {
        RateShapes x = Check.withTree("1/A+1/H");
        for (int unit = 0; unit < 8; unit++) {
            CHECK.due("amount of " + unit, x.amount(unit, 3), true);
        }
        for (int unit : new int[] {-1, -2, 8, 9, Integer.MIN_VALUE, Integer.MAX_VALUE}) {
            CHECK.due("amount of " + unit, x.amount(unit, 3), false);
            CHECK.due("none of " + unit, x.amount(unit, NONE), false);
        }
        for (long amount : new long[] {0, 1, MOST - 1, MOST}) {
            CHECK.due("amount " + amount, x.amount(0, amount), true);
            CHECK.due("micros of " + amount, x.part(1), amount * 1000);
        }
        x.amount(0, 7);
        for (long amount : new long[] {-2, MOST + 1, WRAPPED, (1L << 32) - 1, Long.MIN_VALUE,
            Long.MAX_VALUE}) {
            CHECK.due("amount " + amount, x.amount(0, amount), false);
            CHECK.due("the amount stays", x.part(1), 7000);
        }
        CHECK.due("none any more", x.amount(0, NONE), true);
        throwsUnsupported("part without", () -> x.part(1));
        CHECK.due("none of none", x.amount(0, NONE), true);
        CHECK.due("the other unit's stays", x.part(2), 3000);
        CHECK.due("one again", x.amount(0, 0), true);
        CHECK.due("it is 0", x.part(1), 0);
    }

    // A unit is CONVERTED to another one .. false if there are no such units.

    private static void promise6Units() {
        for (int unit = -1; unit <= 8; unit++) {
            for (int to = -1; to <= 8; to++) {
                boolean are = unit >= 0 && unit < 8 && to >= 0 && to < 8;
                String call = "convert " + unit + " " + to;
                CHECK.due(call, new RateShapes().convert(unit, to, 1), are && unit != to);
                CHECK.due(call + " no more", new RateShapes().convert(unit, to, 0), are);
            }
        }
        for (int wrong : new int[] {Integer.MIN_VALUE, Integer.MAX_VALUE, 1 << 16, 1 << 8}) {
            CHECK.due("convert " + wrong, new RateShapes().convert(wrong, 0, 1), false);
            CHECK.due("convert to " + wrong, new RateShapes().convert(0, wrong, 1), false);
        }
    }

    // .. so many (1 .. 1000) in one of it; with 0 it is not any more; false if times can't be.

    private static void promise6Times() {
        RateShapes x = Check.withTree("1/A");
        x.amount(1, 1);
        for (int times : new int[] {1, 2, 999, 1000}) {
            CHECK.due("times " + times, x.convert(0, 1, times), true);
            CHECK.due("micros of " + times, x.part(0), 1000L * times);
        }
        for (int times : new int[] {-1, -1000, 1001, Integer.MIN_VALUE, Integer.MAX_VALUE}) {
            CHECK.due("times " + times, x.convert(0, 1, times), false);
            CHECK.due("it stays converted", x.part(0), 1000000);
        }
        CHECK.due("times 0", x.convert(0, 1, 0), true);
        CHECK.due("not any more", x.missing(0), 0);
        CHECK.due("times 0 of what is not", x.convert(0, 1, 0), true);
        CHECK.due("converted again", x.convert(0, 1, 4), true);
        CHECK.due("micros then", x.part(0), 4000);
        CHECK.due("to another one", x.convert(0, 2, 5), true);
        CHECK.due("which has none", x.missing(0), 0);
        CHECK.due("back", x.convert(0, 1, 6), true);
        CHECK.due("the last one counts", x.part(0), 6000);
        CHECK.due("0 to another one ends it, too", x.convert(0, 3, 0), true);
        CHECK.due("not any more then", x.missing(0), 0);
    }

    // .. or a ring would come of it.

    private static void promise6Rings() {
        RateShapes x = Check.withTree("1/A");
        CHECK.due("A to A", x.convert(0, 0, 1), false);
        CHECK.due("A to B", x.convert(0, 1, 2), true);
        CHECK.due("B to A", x.convert(1, 0, 1), false);
        CHECK.due("B to C", x.convert(1, 2, 3), true);
        CHECK.due("C to A", x.convert(2, 0, 1), false);
        CHECK.due("C to B", x.convert(2, 1, 1), false);
        CHECK.due("C to C", x.convert(2, 2, 1), false);
        CHECK.due("C to D", x.convert(2, 3, 1), true);
        CHECK.due("E to A, from aside", x.convert(4, 0, 1), true);
        CHECK.due("F to A, too", x.convert(5, 0, 1), true);
        CHECK.due("D to F", x.convert(3, 5, 1), false);
        x.amount(3, 10);
        CHECK.due("nothing changed", x.part(0), 60000);
        CHECK.due("A to C, past B", x.convert(0, 2, 1), true);
        CHECK.due("C to A is a ring still", x.convert(2, 0, 1), false);
        CHECK.due("B to A is none now that A goes past B", x.convert(1, 0, 1), true);
        CHECK.due("an own amount opens no ring", x.amount(0, 1) && x.convert(2, 0, 1), false);
        x.amount(0, NONE);
        CHECK.due("A no more", x.convert(0, 0, 0), true);
        CHECK.due("C to A goes now", x.convert(2, 0, 1), true);
        CHECK.due("A to B is a ring now", x.convert(0, 1, 1), false);
        CHECK.due("0 is never a ring", x.convert(0, 1, 0), true);
    }

    // side 0: above, 1: below the line. IllegalArgumentException if there is no such side ..

    private static void promise7Sides() {
        RateShapes x = Check.withTree("50%");
        x.price(1);
        CHECK.due("side 0", x.value(0), 1);
        CHECK.due("side 1", x.value(1), 2);
        for (int side : new int[] {-1, 2, 3, Integer.MIN_VALUE, Integer.MAX_VALUE}) {
            throwsArgument("side " + side, () -> x.value(side));
        }
        for (int side = 0; side < 2; side++) {
            int which = side;
            throwsState("without a tree " + side, () -> new RateShapes().value(which));
            throwsUnsupported("without A " + side, () -> Check.withTree("1/A").value(which));
            throwsUnsupported("without B in a side that does not count " + side,
                    () -> Check.withTree("min(free,1/B)").value(which));
            throwsUnsupported("0 of it, too " + side, () -> Check.withTree("0/C").value(which));
        }
    }

    // .. as a fraction of a cent, reduced.

    private static void promise7Reduced() {
        long[][] rows = {{0, 0, 1}, {1, 1, 1000000}, {2, 1, 500000}, {3, 3, 1000000}, {5, 1, 200000},
            {10, 1, 100000}, {64, 1, 15625}, {128, 2, 15625}, {15625, 1, 64}, {31250, 1, 32},
            {500000, 1, 2}, {999999, 999999, 1000000}, {1000000, 1, 1}, {1000001, 1000001, 1000000},
            {1500000, 3, 2}, {7000000, 7, 1}, {99999998, 49999999, 500000}, {100000000, 100, 1}};
        RateShapes x = Check.withTree("0.001/A");
        for (long[] row : rows) {
            x.amount(0, row[0]);
            CHECK.due("micros " + row[0], x.value(0) + "/" + x.value(1), row[1] + "/" + row[2]);
        }
    }

    // UnsupportedOperationException if a unit of it has no amount, or more than 100000000.

    private static void promise7TooMuch() {
        RateShapes x = Check.withTree("1/A");
        x.convert(0, 1, 10);
        x.amount(1, MOST / 10);
        CHECK.due("exactly the most", x.value(0), 100000);
        x.amount(1, MOST / 10 + 1);
        throwsUnsupported("above it", () -> x.value(0));
        throwsUnsupported("above it, side 1", () -> x.value(1));
        CHECK.due("it has an amount", x.missing(0), NONE);
        x.convert(0, 1, 1);
        CHECK.due("less of it", x.value(0), 10000001);
        // Seven conversions by 1000 are far above what a long holds.
        RateShapes far = Check.withTree("1/A");
        for (int unit = 0; unit < 7; unit++) {
            far.convert(unit, unit + 1, 1000);
        }
        for (long amount : new long[] {1, 2, 1 << 20, MOST}) {
            far.amount(7, amount);
            throwsUnsupported("far above it", () -> far.value(0));
        }
        far.amount(7, 0);
        CHECK.due("none of it is not too much", far.value(0), 0);
        // The unit between them is not in the tree.
        RateShapes own = Check.withTree("1/A+1/B");
        own.convert(0, 1, 1000);
        own.amount(1, MOST);
        throwsUnsupported("A has too much", () -> own.value(0));
        own.amount(0, 5);
        CHECK.due("with an own amount it has not", own.cents(0), 100000);
    }

    // IllegalArgumentException if there is no such rule ..

    private static void promise8Rules() {
        RateShapes x = Check.withTree("100%");
        x.price(15);
        long[] want = {15, 15, 15, 10};
        for (int rule = 0; rule < 4; rule++) {
            int which = rule;
            CHECK.due("rule " + rule, x.cents(rule), want[rule]);
            throwsState("without a tree " + rule, () -> new RateShapes().cents(which));
            throwsUnsupported("without A " + rule, () -> Check.withTree("1/A").cents(which));
            throwsUnsupported("too much of A " + rule, () -> tooMuch().cents(which));
        }
        for (int rule : new int[] {-1, 4, 5, Integer.MIN_VALUE, Integer.MAX_VALUE}) {
            throwsArgument("rule " + rule, () -> x.cents(rule));
        }
    }

    private static RateShapes tooMuch() {
        RateShapes x = Check.withTree("1/A");
        x.convert(0, 1, 2);
        x.amount(1, MOST / 2 + 1);
        return x;
    }

    // rule 0: rounded down, 1: to the nearest (half up), 2: up, 3: down to tens.

    private static void promise8Rounding() {
        long[][] rows = {{0, 0, 0, 0, 0}, {1, 0, 0, 1, 0}, {499999, 0, 0, 1, 0}, {500000, 0, 1, 1, 0},
            {500001, 0, 1, 1, 0}, {999999, 0, 1, 1, 0}, {1000000, 1, 1, 1, 0}, {1000001, 1, 1, 2, 0},
            {1499999, 1, 1, 2, 0}, {1500000, 1, 2, 2, 0}, {2500000, 2, 3, 3, 0}, {9000000, 9, 9, 9, 0},
            {9499999, 9, 9, 10, 0}, {9500000, 9, 10, 10, 0}, {9999999, 9, 10, 10, 0},
            {10000000, 10, 10, 10, 10}, {10000001, 10, 10, 11, 10}, {15000000, 15, 15, 15, 10},
            {19999999, 19, 20, 20, 10}, {20000000, 20, 20, 20, 20}, {99999999, 99, 100, 100, 90},
            {100000000, 100, 100, 100, 100}};
        RateShapes x = Check.withTree("0.001/A");
        for (long[] row : rows) {
            x.amount(0, row[0]);
            for (int rule = 0; rule < 4; rule++) {
                CHECK.due("micros " + row[0] + " by rule " + rule, x.cents(rule), row[rule + 1]);
            }
        }
        // Rounded once: the halves of both parts make one whole, not two.
        RateShapes halves = Check.withTree("50% + 50%");
        halves.price(1);
        for (int rule = 0; rule < 3; rule++) {
            CHECK.due("two halves by rule " + rule, halves.cents(rule), 1);
        }
    }

    // IndexOutOfBoundsException if there is none such, or no such what.

    private static void promise9() {
        RateShapes x = Check.withTree("0%+".repeat(29) + "0%");
        CHECK.due("the first node", Check.node(x, 0), "3 0 -1 1 58 0");
        CHECK.due("the last node", Check.node(x, 58), "1 0 -1 -1 -1 0");
        for (int what = 0; what < 6; what++) {
            int which = what;
            for (int i : new int[] {-1, 59, 60, 61, Integer.MIN_VALUE, Integer.MAX_VALUE}) {
                throwsIndex("node " + i + " " + what, () -> x.node(i, which));
            }
            throwsIndex("no tree " + what, () -> new RateShapes().node(0, which));
        }
        for (int what : new int[] {-1, 6, 7, Integer.MIN_VALUE, Integer.MAX_VALUE}) {
            throwsIndex("node 0 " + what, () -> x.node(0, what));
            throwsIndex("node 58 " + what, () -> x.node(58, what));
            throwsIndex("node 59 " + what, () -> x.node(59, what));
        }
        Check.read(x, "free+free");
        throwsIndex("a node of the tree before", () -> x.node(3, 0));
        CHECK.due("the last node then", x.node(2, 0), 0);
    }

    // 1: its NUMBER in thousandths, or the entry price (0 else), 2: its unit (NONE else), 3, 4: the nodes
    // below it on the left and right (NONE else), 5: rows.

    private static void promise9ElseNone() {
        RateShapes x = Check.withTree(
                "min(free, 0.001%) - max(99999.999/H, step(999999: 1=2, 3=4)) + step(0: 0=0)");
        String[] want = {"3 0 -1 1 8 0", "4 0 -1 2 5 0", "5 0 -1 3 4 0", "0 0 -1 -1 -1 0",
            "1 1 -1 -1 -1 0", "6 0 -1 6 7 0", "2 99999999 7 -1 -1 0", "7 999999 -1 -1 -1 2",
            "7 0 -1 -1 -1 1"};
        CHECK.due("nodes", x.count(1), want.length);
        for (int i = 0; i < want.length; i++) {
            CHECK.due("node " + i, Check.node(x, i), want[i]);
        }
        // Each kind where another one stood before.
        for (int turn = 0; turn < 3; turn++) {
            Check.read(x, turn == 1 ? "step(5: 1=1, 2=2, 3=3) - 7/C" : "free + 8%");
            CHECK.due("top", Check.node(x, 0), turn == 1 ? "4 0 -1 1 2 0" : "3 0 -1 1 2 0");
            CHECK.due("left", Check.node(x, 1), turn == 1 ? "7 5 -1 -1 -1 3" : "0 0 -1 -1 -1 0");
            CHECK.due("right", Check.node(x, 2), turn == 1 ? "2 7000 2 -1 -1 0" : "1 8000 -1 -1 -1 0");
        }
    }

    // IndexOutOfBoundsException if there is none such; UnsupportedOperationException if a unit in it ..

    private static void promise10() {
        RateShapes x = Check.withTree("1/A + min(1/B, 2%) - max(3%, 1/A)");
        x.price(100);
        x.amount(0, 1000);
        // 0 the difference, 1 the sum, 2 A, 3 min, 4 B, 5 2%, 6 max, 7 3%, 8 A
        String none = "UnsupportedOperationException";
        parts(x, none, none, "1000000", none, none, "2000000", "3000000", "3000000", "1000000");
        x.amount(1, 1000);
        parts(x, "-1000000", "2000000", "1000000", "1000000", "1000000", "2000000", "3000000", "3000000",
                "1000000");
        x.amount(0, NONE);
        parts(x, none, none, none, "1000000", "1000000", "2000000", none, "3000000", none);
        x.convert(0, 1, 1000);
        x.amount(1, 100000);
        CHECK.due("exactly the most", x.part(2), MOST * 1000);
        x.amount(1, 100001);
        parts(x, none, none, none, "2000000", "100001000", "2000000", none, "3000000", none);
        for (int i : new int[] {-1, 9, 60, Integer.MIN_VALUE, Integer.MAX_VALUE}) {
            throwsIndex("part " + i, () -> x.part(i));
        }
        throwsIndex("no tree", () -> new RateShapes().part(0));
        Check.read(x, "free");
        CHECK.due("the only part", x.part(0), 0);
        throwsIndex("a part of the tree before", () -> x.part(1));
    }

    private static void parts(RateShapes x, String... want) {
        for (int i = 0; i < want.length; i++) {
            int index = i;
            CHECK.due("part " + i, Check.outcome(() -> x.part(index)), want[i]);
        }
    }

    // Of the units in the tree that have no amount the i-th by letters; NONE without.

    private static void promise11() {
        RateShapes x = Check.withTree("1/H + 1/A - min(1/D, 1/H) + 1/A");
        missing(x, 0, 3, 7);
        x.amount(3, 0);
        missing(x, 0, 7);
        x.convert(0, 1, 5);
        missing(x, 0, 7);
        x.amount(1, 1);
        missing(x, 7);
        x.convert(7, 0, 1000);
        missing(x);
        // Too much is not none.
        x.amount(1, MOST);
        missing(x);
        throwsUnsupported("but too much", () -> x.value(0));
        x.amount(1, NONE);
        missing(x, 0, 7);
        x.amount(0, 3);
        missing(x);
        x.amount(3, NONE);
        missing(x, 3);
        Check.read(x, "1/E + 1%");
        missing(x, 4);
        // One node more would be the tree's before.
        Check.read(x, "1%");
        missing(x);
        Check.read(x, "1/E");
        missing(x, 4);
        Check.read(x, "1%");
        missing(x);
        Check.read(x, "1/E+");
        missing(x);
        missing(Check.withTree("1/A+1/B+1/C+1/D+1/E+1/F+1/G+1/H"), 0, 1, 2, 3, 4, 5, 6, 7);
        missing(Check.withTree("max(1/H,1/G)+1/F"), 5, 6, 7);
    }

    /** These are missing, and none behind or ahead of them. */
    private static void missing(RateShapes x, int... units) {
        for (int i = 0; i < units.length; i++) {
            CHECK.due("missing " + i, x.missing(i), units[i]);
        }
        for (int i : new int[] {-1, -2, units.length, units.length + 1, 8, Integer.MIN_VALUE,
            Integer.MAX_VALUE}) {
            CHECK.due("missing " + i + " of " + units.length, x.missing(i), NONE);
        }
    }

    // The tree is PRINTED: how many signs. IllegalStateException without one.

    private static void promise12() {
        RateShapes x = new RateShapes();
        throwsState("no tree yet", () -> x.print());
        Check.read(x, "0%");
        CHECK.due("the shortest", x.print(), 2);
        CHECK.due("twice the same", x.print(), 2);
        Check.read(x, "1/A-(free)");
        CHECK.due("nothing is printed by read", x.count(2), 2);
        CHECK.due("the next", x.print(), 10);
        Check.read(x, "(");
        throwsState("no tree any more", () -> x.print());
        CHECK.due("what was printed last stays", x.count(2), 10);
        // More signs than a text may have.
        String step = "step(1:1=1,2=1,3=1,4=1,5=1,6=1)+";
        Check.read(x, step.repeat(9) + "free");
        CHECK.due("a long one", x.print(), 9 * (step.length() + 8) + 4);
        CHECK.due("its last sign", x.at(9 * (step.length() + 8) + 3), 'e');
        // Amounts are not needed.
        CHECK.due("without an amount", Check.withTree("5/B").print(), 3);
    }

    // Sign i of what was printed last. IndexOutOfBoundsException if there is none such.

    private static void promise13() {
        RateShapes x = Check.withTree("1%-2/B");
        throwsIndex("not printed yet", () -> x.at(0));
        CHECK.due("print", x.print(), 8);
        String want = "1% - 2/B";
        for (int i = 0; i < want.length(); i++) {
            CHECK.due("at " + i, x.at(i), want.charAt(i));
        }
        for (int i : new int[] {-1, 8, 9, 299, 300, 900, Integer.MIN_VALUE, Integer.MAX_VALUE}) {
            throwsIndex("at " + i, () -> x.at(i));
        }
        Check.read(x, "free");
        CHECK.due("printed last, not read last", x.at(7), 'B');
        x.print();
        CHECK.due("at 3", x.at(3), 'e');
        throwsIndex("at 4", () -> x.at(4));
        throwsIndex("at 7", () -> x.at(7));
    }

    // IllegalArgumentException if they are not 0 .. 1000000000; ArithmeticException for price 0.

    private static void promise14() {
        RateShapes x = new RateShapes();
        long[][] rows = {{0, 1, 0}, {0, STEP_MOST, 0}, {1, 1, 100}, {1, 100, 1}, {1, 101, 0}, {99, 100, 99},
            {2, 3, 66}, {1, 3, 33}, {STEP_MOST, 1, STEP_MOST * 100}, {STEP_MOST - 1, 1, 99999999900L},
            {STEP_MOST, STEP_MOST, 100}, {STEP_MOST - 1, STEP_MOST, 99}, {9999999, STEP_MOST, 0},
            {10000000, STEP_MOST, 1}};
        for (long[] row : rows) {
            CHECK.due("step " + row[0] + " " + row[1], x.step(row[0], row[1]), row[2]);
        }
        for (long wrong : new long[] {-1, STEP_MOST + 1, WRAPPED, Long.MIN_VALUE, Long.MAX_VALUE}) {
            throwsArgument("entry " + wrong, () -> x.step(wrong, 1));
            throwsArgument("price " + wrong, () -> x.step(1, wrong));
            throwsArgument("both " + wrong, () -> x.step(wrong, wrong));
            throwsArgument("entry " + wrong + ", price 0", () -> x.step(wrong, 0));
            throwsArgument("entry 0, price " + wrong, () -> x.step(0, wrong));
        }
        for (long entry : new long[] {0, 1, STEP_MOST}) {
            CHECK.dueThrow("step " + entry + " 0", ArithmeticException.class, () -> x.step(entry, 0));
            CHECK.due("the class throws it, not the machine", messageAtPrice0(x, entry), "price 0");
        }
        // Neither the price nor a tree has a part in it.
        RateShapes priced = Check.withTree("step(1: 0=5)");
        priced.price(7);
        CHECK.due("its own price", priced.step(10, 4), 250);
        CHECK.due("the price stays", priced.part(0), 5000000);
    }

    private static String messageAtPrice0(RateShapes x, long entry) {
        try {
            return "answered " + x.step(entry, 0);
        } catch (ArithmeticException e) {
            return e.getMessage();
        }
    }

    // what 0: signs of the text, 1: nodes (0 without a tree), 2: signs of what was printed last, 3: the
    // most that is nested in the tree. NONE for another what.

    private static void promise15() {
        RateShapes x = new RateShapes();
        counts(x, 0, 0, 0, 0);
        x.sign(31);
        counts(x, 0, 0, 0, 0);
        x.sign(' ');
        counts(x, 1, 0, 0, 0);
        Check.read(x, "(1%)-min(free,(1/A))");
        counts(x, 0, 5, 0, 2);
        x.print();
        counts(x, 0, 5, 19, 2);
        x.sign('x');
        counts(x, 1, 5, 19, 2);
        x.read();
        counts(x, 0, 0, 19, 0);
        Check.read(x, "step(1:1=1)");
        counts(x, 0, 1, 19, 0);
        Check.read(x, "(".repeat(12) + "1%" + ")".repeat(12));
        counts(x, 0, 1, 19, 12);
        x.print();
        counts(x, 0, 1, 2, 12);
        Check.read(x, "max(1%,1%)+1%");
        counts(x, 0, 5, 2, 1);
    }

    private static void counts(RateShapes x, int signs, int nodes, int printed, int nested) {
        CHECK.due("signs", x.count(0), signs);
        CHECK.due("nodes", x.count(1), nodes);
        CHECK.due("printed", x.count(2), printed);
        CHECK.due("nested", x.count(3), nested);
        for (int what : new int[] {-1, -2, 4, 5, Integer.MIN_VALUE, Integer.MAX_VALUE}) {
            CHECK.due("count " + what, x.count(what), NONE);
        }
    }

    // Of several exceptions the one told first is thrown.

    private static void firstToldIsThrown() {
        RateShapes none = new RateShapes();
        RateShapes lacking = Check.withTree("1/A");
        throwsArgument("no side, no tree", () -> none.value(2));
        throwsArgument("no side, no amount", () -> lacking.value(-1));
        throwsArgument("no side, too much", () -> tooMuch().value(2));
        throwsState("a side, no tree", () -> none.value(1));
        throwsArgument("no rule, no tree", () -> none.cents(4));
        throwsArgument("no rule, no amount", () -> lacking.cents(-1));
        throwsArgument("no rule, too much", () -> tooMuch().cents(4));
        throwsState("a rule, no tree", () -> none.cents(3));
        throwsIndex("no node, no amount", () -> lacking.part(1));
        throwsIndex("no node, no what", () -> lacking.node(1, 6));
        throwsArgument("no entry, price 0", () -> none.step(-1, 0));
        throwsArgument("too much of an entry, price 0", () -> none.step(STEP_MOST + 1, 0));
    }

    // What throws changes nothing.

    private static void whatThrowsChangesNothing() {
        String[] trees = {"1/A + 2/B - step(5: 1=2)", "1/A+", "2/B"};
        for (String tree : trees) {
            RateShapes x = Check.withTree("free");
            x.print();
            Check.read(x, tree);
            x.price(3);
            x.amount(1, 4);
            x.sign('7');
            String before = Check.state(x);
            boolean whole = x.count(1) > 0;
            boolean lacks = x.count(1) > 1;
            unchanged(x, before, "IllegalArgumentException", () -> x.value(2));
            unchanged(x, before, "IllegalArgumentException", () -> x.cents(4));
            unchanged(x, before, "IndexOutOfBoundsException", () -> x.node(60, 0));
            unchanged(x, before, "IndexOutOfBoundsException", () -> x.node(0, 6));
            unchanged(x, before, "IndexOutOfBoundsException", () -> x.part(60));
            unchanged(x, before, "IndexOutOfBoundsException", () -> x.at(4));
            unchanged(x, before, "IllegalArgumentException", () -> x.step(-1, 1));
            unchanged(x, before, "ArithmeticException", () -> x.step(1, 0));
            if (!whole) {
                unchanged(x, before, "IllegalStateException", () -> x.value(0));
                unchanged(x, before, "IllegalStateException", () -> x.cents(0));
                unchanged(x, before, "IllegalStateException", () -> x.print());
            }
            if (lacks) {
                unchanged(x, before, "UnsupportedOperationException", () -> x.value(0));
                unchanged(x, before, "UnsupportedOperationException", () -> x.cents(0));
                unchanged(x, before, "UnsupportedOperationException", () -> x.part(0));
            }
            x.sign('%');
            CHECK.due("the text is as it was", x.read(), 1);
            CHECK.due("and the price", x.part(0), 3 * 70000);
        }
    }

    private static void unchanged(RateShapes x, String before, String exception, LongSupplier call) {
        CHECK.due("thrown", Check.outcome(call), exception);
        CHECK.due("after " + exception, Check.state(x), before);
    }

    /** Calls that answer false leave all as it was. */
    private static void whatIsRefusedChangesNothing() {
        RateShapes x = Check.withTree("100% + 1/A + 1/B");
        x.price(3);
        x.amount(0, 4);
        x.convert(1, 0, 5);
        x.sign('7');
        String before = Check.state(x);
        boolean[] answers = {x.sign(31), x.sign(127), x.price(-1), x.price(MOST + 1), x.amount(0, -2),
            x.amount(0, MOST + 1), x.amount(8, 1), x.amount(-1, 1), x.convert(1, 0, 1001),
            x.convert(1, 0, -1), x.convert(0, 1, 1), x.convert(1, 1, 1), x.convert(1, 8, 0),
            x.convert(1, -1, 0), x.convert(8, 1, 0)};
        for (int i = 0; i < answers.length; i++) {
            CHECK.due("refused call " + i, answers[i], false);
        }
        CHECK.due("after refused calls", Check.state(x), before);
        x.sign('%');
        CHECK.due("the text is as it was", x.read(), 1);
    }

    // An object is used for at most 512 calls after it has been made.

    private static void call512() {
        RateShapes x = new RateShapes();
        int calls = 0;
        String text = "min(1/A,step(5:1=2))";
        for (int i = 0; i < 280; i++) {
            x.sign(' ');
            calls++;
        }
        for (int i = 0; i < text.length(); i++) {
            x.sign(text.charAt(i));
            calls++;
        }
        CHECK.due("read", x.read(), 3);
        calls++;
        for (int i = 0; calls < 510; i++) {
            x.amount(0, i);
            calls++;
        }
        x.amount(0, 1500);
        calls++;
        CHECK.due("call 512", x.part(0), 1500000);
        calls++;
        CHECK.due("calls", calls, 512);
    }
}
