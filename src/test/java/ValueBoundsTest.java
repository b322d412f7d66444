/**
 * The boundary cases that the section 'Terms' names of money, amounts, values and what is printed, a
 * method for each sentence, with what stands on both sides of the boundary.
 */
public final class ValueBoundsTest {
    private static final Check CHECK = new Check("ValueBoundsTest");
    private static final long MOST = 100000000L;
    private static final long CENT = 1000000L;

    public static void main(String[] args) {
        priceZeroAtFirst();
        unitWithoutAnAmountIsConverted();
        convertedAmountMayBeConvertedToo();
        notInARing();
        free();
        shareIsExact();
        byUnitIsExact();
        sumAndDifference();
        leastAndGreatest();
        lastRowNotAboveQ();
        qIsRoundedDown();
        zeroWithoutSuchARow();
        lastRowIfThePriceIsZero();
        rateNotBelowZero();
        wholeSumsStayExact();
        leastDigits();
        blanksInPrint();
        rightSideInBrackets();
        printedLists();
        readAgainTheSameNodes();
        CHECK.end();
    }

    private static RateShapes priced(String text, long price) {
        RateShapes x = Check.withTree(text);
        CHECK.due("price " + price, x.price(price), true);
        return x;
    }

    private static void micros(String text, long price, long want) {
        CHECK.due(text + " at " + price, priced(text, price).part(0), want);
    }

    /** A rate by A and B with these amounts. */
    private static RateShapes byUnits(String text, long a, long b) {
        RateShapes x = Check.withTree(text);
        CHECK.due("amount A " + a, x.amount(0, a), true);
        CHECK.due("amount B " + b, x.amount(1, b), true);
        return x;
    }

    // THE PRICE is told in cents (0 at first).

    private static void priceZeroAtFirst() {
        RateShapes x = Check.withTree("99999.999% + step(1: 0=2, 5=7)");
        CHECK.due("a share of 0", x.part(1), 0);
        CHECK.due("the last row at 0", x.part(2), 7 * CENT);
        x.price(1);
        CHECK.due("a share of 1", x.part(1), 999999990L);
    }

    // A unit without an amount may be CONVERTED: so many (whole) of another one are in one of it.

    private static void unitWithoutAnAmountIsConverted() {
        RateShapes x = Check.withTree("1/A");
        x.amount(1, 7);
        CHECK.due("no conversion yet", x.missing(0), 0);
        x.convert(0, 1, 1);
        CHECK.due("once as many", x.part(0), 7000);
        x.convert(0, 1, 1000);
        CHECK.due("a thousand times as many", x.part(0), 7000000);
        x.amount(0, 0);
        CHECK.due("its own amount, be it 0", x.part(0), 0);
        x.amount(0, RateShapes.NONE);
        CHECK.due("without its own", x.part(0), 7000000);
        x.amount(1, 0);
        CHECK.due("times nothing", x.part(0), 0);
        CHECK.due("nothing is an amount", x.missing(0), RateShapes.NONE);
        x.amount(1, RateShapes.NONE);
        CHECK.due("that one has none", x.missing(0), 0);
    }

    private static void convertedAmountMayBeConvertedToo() {
        RateShapes x = Check.withTree("0.001/A");
        for (int unit = 0; unit < 7; unit++) {
            CHECK.due("chain from " + unit, x.convert(unit, unit + 1, 2), true);
            CHECK.due("no end yet", x.missing(0), 0);
        }
        x.amount(7, 3);
        CHECK.due("through all eight", x.part(0), 3 * 128);
        x.amount(3, 5);
        CHECK.due("it ends at an own amount", x.part(0), 5 * 8);
        x.amount(3, RateShapes.NONE);
        x.convert(5, 6, 0);
        CHECK.due("the chain is cut", x.missing(0), 0);
    }

    private static void notInARing() {
        for (int length = 1; length <= 8; length++) {
            RateShapes x = new RateShapes();
            for (int unit = 0; unit + 1 < length; unit++) {
                CHECK.due("ring of " + length + ", at " + unit, x.convert(unit, unit + 1, 1), true);
            }
            CHECK.due("ring of " + length, x.convert(length - 1, 0, 1), false);
            if (length < 8) {
                CHECK.due("no ring of " + length, x.convert(length - 1, length, 1), true);
            }
        }
    }

    // VALUES of nodes, in micros: FREE 0.

    private static void free() {
        micros("free", 0, 0);
        micros("free", MOST, 0);
    }

    // SHARE: price * NUMBER / 100, exactly.

    private static void shareIsExact() {
        micros("0.001%", 0, 0);
        micros("0.001%", 1, 10);
        micros("0%", MOST, 0);
        micros("33.333%", 1, 333330);
        micros("100%", 1, CENT);
        micros("99.999%", 1, CENT - 10);
        micros("99999.999%", 1, 999999990L);
        micros("0.001%", MOST, 1000 * CENT);
        micros("99999.999%", MOST, 99999999000L * CENT);
        micros("99999.999%", MOST - 1, 99999999L * 99999999L * 10);
    }

    // BY UNIT: NUMBER cents for each whole unit: exactly.

    private static void byUnitIsExact() {
        CHECK.due("a thousandth of a thousandth", byUnits("0.001/A", 1, 0).part(0), 1);
        CHECK.due("nothing of it", byUnits("99999.999/A", 0, 0).part(0), 0);
        CHECK.due("nothing for it", byUnits("0/A", MOST, 0).part(0), 0);
        CHECK.due("not yet one", byUnits("1/A", 999, 0).part(0), 999000);
        CHECK.due("one", byUnits("1/A", 1000, 0).part(0), CENT);
        CHECK.due("more than one", byUnits("1/A", 1001, 0).part(0), 1001000);
        CHECK.due("the most", byUnits("99999.999/A", MOST, 0).part(0), 9999999900L * CENT);
        CHECK.due("the price does not matter", priced("2/A - 2/A", MOST).missing(0), 0);
    }

    // SUM, DIFFERENCE, LEAST, GREATEST of both.

    private static void sumAndDifference() {
        micros("2% + 1%", 100, 3 * CENT);
        micros("2% - 1%", 100, CENT);
        micros("1% - 1%", 100, 0);
        micros("1% - 2%", 100, -CENT);
        micros("free - 0.001%", 1, -10);
        micros("free - 99999.999%", MOST, -99999999000L * CENT);
        // A part below 0 counts as it is.
        micros("1% - 3% + 2%", 100, 0);
        micros("5% - (1% - 3%)", 100, 7 * CENT);
    }

    private static void leastAndGreatest() {
        micros("min(1%, 2%)", 100, CENT);
        micros("min(2%, 1%)", 100, CENT);
        micros("min(2%, 2%)", 100, 2 * CENT);
        micros("max(1%, 2%)", 100, 2 * CENT);
        micros("max(2%, 1%)", 100, 2 * CENT);
        micros("max(1%, 1%)", 100, CENT);
        micros("min(1%, 1.001%)", 1, 10000);
        micros("max(1%, 1.001%)", 1, 10010);
        micros("min(free, 1% - 2%)", 100, -CENT);
        micros("max(free, 1% - 2%)", 100, 0);
        micros("max(1% - 3%, 1% - 2%)", 100, -CENT);
    }

    // STEPS: .. the cents of the last row whose first number is not above q.

    private static void lastRowNotAboveQ() {
        String text = "step(100: 50=7, 100=3, 200=9)";
        micros(text, 201, 0);
        micros(text, 200, 7 * CENT);
        micros(text, 101, 7 * CENT);
        micros(text, 100, 3 * CENT);
        micros(text, 51, 3 * CENT);
        micros(text, 50, 9 * CENT);
        micros(text, 49, 9 * CENT);
        micros(text, 1, 9 * CENT);
        // All six rows, each on both sides of its bound: q is 100 * 600 / price.
        String six = "step(600: 10=1, 20=2, 30=3, 40=4, 50=5, 60=6)";
        for (int row = 1; row <= 6; row++) {
            long price = 60000L / (10 * row);
            micros(six, price, row * CENT);
            micros(six, price + 1, (row - 1) * CENT);
        }
        micros("step(999999: 999998=1, 999999=999999)", 100, 999999 * CENT);
        micros("step(999999: 999998=1, 999999=999999)", 101, 0);
        // Each step has its own rows.
        micros("step(1: 0=1) - step(1: 0=20, 100=30) + step(1: 0=300)", 1, 271 * CENT);
        micros("step(1: 0=1) - step(1: 0=20, 100=30) + step(1: 0=300)", 2, 281 * CENT);
    }

    // q = entry price * 100 / price, rounded down.

    private static void qIsRoundedDown() {
        micros("step(2: 66=1, 67=2)", 3, CENT);
        micros("step(199: 199=1)", 100, CENT);
        micros("step(199: 199=1)", 101, 0);
        micros("step(1: 0=1, 1=2)", 100, 2 * CENT);
        micros("step(1: 0=1, 1=2)", 101, CENT);
        micros("step(999999: 0=1, 1=2)", 99999900, 2 * CENT);
        micros("step(999999: 0=1, 1=2)", 99999901, CENT);
        micros("step(999999: 0=1, 1=2)", MOST, CENT);
        micros("step(0: 0=1, 1=2)", 1, CENT);
        micros("step(0: 0=1, 1=2)", MOST, CENT);
    }

    private static void zeroWithoutSuchARow() {
        micros("step(0: 1=5)", 1, 0);
        micros("step(1: 101=5)", 1, 0);
        micros("step(1: 100=5)", 1, 5 * CENT);
        micros("step(1: 100=0)", 1, 0);
        // Nothing is left of a step that was read before.
        RateShapes x = priced("step(1: 0=9)", 1);
        Check.read(x, "step(1: 101=5)");
        CHECK.due("a row of the tree before", x.part(0), 0);
    }

    private static void lastRowIfThePriceIsZero() {
        micros("step(0: 5=7)", 0, 7 * CENT);
        micros("step(100: 50=7, 200=9)", 0, 9 * CENT);
        micros("step(0: 1=1, 2=2, 3=3, 4=4, 5=5, 999999=0)", 0, 0);
        micros("step(0: 0=4, 999999=6)", 0, 6 * CENT);
        micros("step(0: 0=4, 999999=6)", 1, 4 * CENT);
        micros("step(1: 0=1) - step(1: 0=2, 1=5)", 0, -4 * CENT);
    }

    // THE RATE'S value is that of node 0, but not below 0.

    private static void rateNotBelowZero() {
        long[] a = {0, 5, 6, 7};
        long[] b = {1, 6, 6, 6};
        long[] part = {-1, -1, 0, 1};
        for (int i = 0; i < a.length; i++) {
            RateShapes x = byUnits("0.001/A - 0.001/B", a[i], b[i]);
            CHECK.due("node 0 as it is, " + i, x.part(0), part[i]);
            CHECK.due("above the line, " + i, x.value(0), Math.max(0, part[i]));
            CHECK.due("below the line, " + i, x.value(1), part[i] == 1 ? 1000000 : 1);
            CHECK.due("rounded up, " + i, x.cents(2), Math.max(0, part[i]));
            for (int rule : new int[] {0, 1, 3}) {
                CHECK.due("rule " + rule + ", " + i, x.cents(rule), 0);
            }
        }
        RateShapes far = priced("1% - 99999.999%", MOST);
        for (int rule = 0; rule < 4; rule++) {
            CHECK.due("far below 0", far.cents(rule), 0);
        }
        CHECK.due("far below 0 as a fraction", far.value(0) + "/" + far.value(1), "0/1");
    }

    /** No sum that a text can hold wraps around. */
    private static void wholeSumsStayExact() {
        RateShapes most = priced("99999.999%+".repeat(26) + "99999.999%", MOST);
        CHECK.due("27 of the greatest shares", most.part(0), 27 * 99999999000L * CENT);
        CHECK.due("up", most.cents(2), 27 * 99999999000L);
        CHECK.due("nearest", most.cents(1), 27 * 99999999000L);
        RateShapes many = priced("99999%+".repeat(29) + "99999%", MOST);
        CHECK.due("30 great shares", many.part(0), 30 * 99999L * MOST * 10000);
        RateShapes least = priced("free" + "-99999.999%".repeat(26), MOST);
        CHECK.due("26 of the greatest off", least.part(0), -26 * 99999999000L * CENT);
    }

    private static void prints(String text, String want) {
        CHECK.due("print of " + text, Check.printed(Check.withTree(text)), want);
    }

    // NUMBER with the least digits that tell it (no 0 ahead but one, none behind a .).

    private static void leastDigits() {
        String[][] numbers = {{"0", "0"}, {"00000", "0"}, {"0.0", "0"}, {"00000.000", "0"}, {"0.5", "0.5"},
            {"0.500", "0.5"}, {"00.05", "0.05"}, {"0.005", "0.005"}, {"0.050", "0.05"}, {"1.0", "1"},
            {"01.100", "1.1"}, {"1.010", "1.01"}, {"1.001", "1.001"}, {"10", "10"}, {"10.0", "10"},
            {"00100", "100"}, {"10000", "10000"}, {"10000.001", "10000.001"}, {"99999.999", "99999.999"},
            {"09999.990", "9999.99"}};
        for (String[] number : numbers) {
            prints(number[0] + "%", number[1] + "%");
            prints(number[0] + "/H", number[1] + "/H");
        }
        prints("step(000000: 000000=000000)", "step(0: 0=0)");
        prints("step(000100: 000010=001000)", "step(100: 10=1000)");
        prints("step(999999: 099999=100000)", "step(999999: 99999=100000)");
    }

    // a + b, a - b with a blank on both sides.

    private static void blanksInPrint() {
        prints("1%+2/A", "1% + 2/A");
        prints("1%-2/A", "1% - 2/A");
        prints("  1  %  -  2  /  A  ", "1% - 2/A");
        prints("  free  ", "free");
    }

    // b in ( ) if it is a SUM or DIFFERENCE.

    private static void rightSideInBrackets() {
        for (String sign : new String[] {" + ", " - "}) {
            prints("1%" + sign + "(2% + 3%)", "1%" + sign + "(2% + 3%)");
            prints("1%" + sign + "(2% - 3%)", "1%" + sign + "(2% - 3%)");
            prints("(2% + 3%)" + sign + "1%", "2% + 3%" + sign + "1%");
            prints("(2% - 3%)" + sign + "1%", "2% - 3%" + sign + "1%");
            for (String b : new String[] {"free", "2%", "2/B", "min(1%, 2%)", "max(1%, 2%)",
                "step(1: 2=3)"}) {
                prints("(1%)" + sign + "((" + b + "))", "1%" + sign + b);
            }
            prints("min((1%" + sign + "2%), (3%))", "min(1%" + sign + "2%, 3%)");
            prints("max((3%), ((1%" + sign + "2%)))", "max(3%, 1%" + sign + "2%)");
        }
        prints("((1% + 2%))", "1% + 2%");
    }

    // min(a, b), max(a, b); step(e: p=c, p=c).

    private static void printedLists() {
        prints("min(1%,2%)", "min(1%, 2%)");
        prints("max ( 1% , 2% )", "max(1%, 2%)");
        prints("step(1:2=3)", "step(1: 2=3)");
        prints("step ( 1 : 2 = 3 , 4 = 5 )", "step(1: 2=3, 4=5)");
        prints("step(1:1=1,2=2,3=3,4=4,5=5,6=6)", "step(1: 1=1, 2=2, 3=3, 4=4, 5=5, 6=6)");
    }

    // Read again it has the same nodes.

    private static void readAgainTheSameNodes() {
        String[] texts = {"free", "00.500%", "((7/H))", "1%-2%+3%", "1%-(2%+3%)", "1%-(2%-(3%-(4%+5%)))",
            "min(1%+2%,(3%))-max((free),step(007:0=1,00009=02))", "0%+".repeat(29) + "0%",
            "(".repeat(12) + "1%" + ")".repeat(12), "0%-(".repeat(12) + "0%-0%" + ")".repeat(12),
            "min(0%,".repeat(12) + "0%" + ")".repeat(12), "max(".repeat(12) + "0%" + ",0%)".repeat(12),
            "step(1:1=1,2=2,3=3,4=4,5=5,6=6)+(step(999999:999999=999999)-free)"};
        for (String text : texts) {
            RateShapes x = Check.withTree(text);
            String printed = Check.printed(x);
            RateShapes again = Check.withTree(printed);
            CHECK.due("nodes again of " + text, again.count(1), x.count(1));
            for (int i = 0; i < x.count(1) && i < again.count(1); i++) {
                CHECK.due("node " + i + " again of " + text, Check.node(again, i), Check.node(x, i));
            }
            CHECK.due("printed again of " + text, Check.printed(again), printed);
        }
    }
}
