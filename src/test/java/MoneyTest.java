/** Promises 4 to 8, 10, 11 and 14: the price, amounts, conversions, values and their rounding. */
public final class MoneyTest {
    private static final Check CHECK = new Check("MoneyTest");
    private static final long MOST = 100000000L;

    public static void main(String[] args) {
        prices();
        amounts();
        conversions();
        rings();
        tooMuch();
        values();
        roundings();
        parts();
        steps();
        missing();
        wrongCalls();
        stepCall();
        CHECK.end();
    }

    private static RateShapes priced(String text, long price) {
        RateShapes x = Check.withTree(text);
        x.price(price);
        return x;
    }

    private static void prices() {
        RateShapes x = Check.withTree("100%");
        CHECK.due("price 7", x.price(7), true);
        long[] wrong = {-1, MOST + 1, Long.MIN_VALUE, Long.MAX_VALUE, 1L << 32};
        for (long cents : wrong) {
            CHECK.due("price " + cents, x.price(cents), false);
            CHECK.due("the price stays", x.cents(0), 7);
        }
        CHECK.due("price most", x.price(MOST), true);
        CHECK.due("cents of it", x.cents(0), MOST);
        CHECK.due("price 0", x.price(0), true);
        CHECK.due("cents of 0", x.cents(0), 0);
    }

    private static void amounts() {
        RateShapes x = Check.withTree("1/A+1/H");
        CHECK.due("amount A", x.amount(0, 2000), true);
        CHECK.due("amount H", x.amount(7, 0), true);
        CHECK.due("cents", x.cents(0), 2);
        int[] wrongUnits = {-1, 8, Integer.MIN_VALUE, Integer.MAX_VALUE};
        for (int unit : wrongUnits) {
            CHECK.due("amount of " + unit, x.amount(unit, 1), false);
            CHECK.due("amount NONE of " + unit, x.amount(unit, RateShapes.NONE), false);
        }
        long[] wrong = {-2, MOST + 1, Long.MIN_VALUE, Long.MAX_VALUE, (1L << 32) - 1, 1L << 32};
        for (long thousandths : wrong) {
            CHECK.due("amount " + thousandths, x.amount(0, thousandths), false);
            CHECK.due("the amount stays", x.cents(0), 2);
        }
        CHECK.due("amount most", x.amount(7, MOST), true);
        CHECK.due("cents with the most", x.cents(0), 100002);
        CHECK.due("no amount any more", x.amount(0, RateShapes.NONE), true);
        CHECK.due("it is missing", x.missing(0), 0);
        CHECK.due("none of none", x.amount(0, RateShapes.NONE), true);
        CHECK.dueThrow("value", UnsupportedOperationException.class, () -> x.value(0));
    }

    private static void conversions() {
        RateShapes x = Check.withTree("1/A");
        CHECK.due("convert A B 12", x.convert(0, 1, 12), true);
        CHECK.dueThrow("neither has one", UnsupportedOperationException.class, () -> x.value(0));
        x.amount(1, 500);
        CHECK.due("A by B", x.part(0), 6000000);
        CHECK.due("convert B C 1000", x.convert(1, 2, 1000), true);
        x.amount(2, 3);
        CHECK.due("B's own ahead of C's", x.part(0), 6000000);
        x.amount(1, RateShapes.NONE);
        CHECK.due("A by B by C", x.part(0), 12L * 1000 * 3 * 1000);
        x.amount(0, 1);
        CHECK.due("A's own ahead of B's", x.part(0), 1000);
        x.amount(0, RateShapes.NONE);
        CHECK.due("convert A C 1", x.convert(0, 2, 1), true);
        CHECK.due("the last conversion counts", x.part(0), 3000);
        CHECK.due("A has an own amount", x.amount(0, 7), true);
        CHECK.due("it may be converted still", x.convert(0, 1, 2), true);
        CHECK.due("and keeps its own", x.part(0), 7000);
        x.amount(0, RateShapes.NONE);
        CHECK.due("till it has none", x.part(0), 2L * 1000 * 3 * 1000);
        CHECK.due("not converted any more", x.convert(0, 5, 0), true);
        CHECK.dueThrow("value without", UnsupportedOperationException.class, () -> x.value(0));
        CHECK.due("not converted twice", x.convert(0, 5, 0), true);
        wrongConversions(x);
    }

    private static void wrongConversions(RateShapes x) {
        x.convert(0, 2, 5);
        int[] wrongUnits = {-1, 8, Integer.MIN_VALUE, Integer.MAX_VALUE};
        for (int unit : wrongUnits) {
            CHECK.due("convert " + unit, x.convert(unit, 2, 1), false);
            CHECK.due("convert to " + unit, x.convert(0, unit, 1), false);
            CHECK.due("convert " + unit + " no more", x.convert(unit, 2, 0), false);
            CHECK.due("convert to " + unit + " no more", x.convert(0, unit, 0), false);
        }
        int[] wrongTimes = {-1, 1001, Integer.MIN_VALUE, Integer.MAX_VALUE};
        for (int times : wrongTimes) {
            CHECK.due("convert times " + times, x.convert(0, 2, times), false);
        }
        CHECK.due("all is as it was", x.part(0), 15000);
    }

    private static void rings() {
        RateShapes x = Check.withTree("1/A");
        CHECK.due("to itself", x.convert(3, 3, 1), false);
        CHECK.due("to itself no more", x.convert(3, 3, 0), true);
        for (int unit = 0; unit < 7; unit++) {
            CHECK.due("chain " + unit, x.convert(unit, unit + 1, 1), true);
        }
        for (int to = 0; to < 8; to++) {
            CHECK.due("ring H to " + to, x.convert(7, to, 1), false);
        }
        CHECK.due("ring C to A", x.convert(2, 0, 1), false);
        x.amount(7, 5);
        CHECK.due("the whole chain", x.part(0), 5000);
        CHECK.due("an amount ends no ring", x.convert(7, 0, 1), false);
        CHECK.due("a shorter way", x.convert(0, 7, 2), true);
        CHECK.due("H to B is a ring still", x.convert(7, 1, 1), false);
        CHECK.due("H to A, too", x.convert(7, 0, 1), false);
        CHECK.due("B to A goes", x.convert(1, 0, 3), true);
        CHECK.due("A by H", x.part(0), 10000);
        CHECK.due("open the chain", x.convert(0, 7, 0), true);
        CHECK.due("H to A goes", x.convert(7, 0, 1), true);
    }

    private static void tooMuch() {
        RateShapes x = Check.withTree("1/A+1/H");
        x.amount(7, 100000);
        x.convert(0, 7, 1000);
        CHECK.due("just enough", x.part(1), MOST * 1000);
        x.amount(7, 100001);
        CHECK.dueThrow("value", UnsupportedOperationException.class, () -> x.value(1));
        CHECK.dueThrow("cents", UnsupportedOperationException.class, () -> x.cents(3));
        CHECK.dueThrow("part", UnsupportedOperationException.class, () -> x.part(1));
        CHECK.due("the other part", x.part(2), 100001000L);
        CHECK.due("too much is not missing", x.missing(0), RateShapes.NONE);
        for (int unit = 0; unit < 7; unit++) {
            x.convert(unit, unit + 1, 1000);
        }
        x.amount(7, 1);
        CHECK.dueThrow("1000 to the 7th", UnsupportedOperationException.class, () -> x.value(0));
        x.amount(7, MOST);
        CHECK.dueThrow("and more", UnsupportedOperationException.class, () -> x.value(0));
        x.amount(7, 0);
        CHECK.due("all of nothing", x.value(0), 0);
    }

    private static void fraction(RateShapes x, long above, long below) {
        CHECK.due("above the line", x.value(0), above);
        CHECK.due("below the line", x.value(1), below);
    }

    private static void values() {
        fraction(priced("free", 100), 0, 1);
        fraction(priced("5%", 1000), 50, 1);
        fraction(priced("0.001%", 1), 1, 100000);
        fraction(priced("0.003%", 1), 3, 100000);
        fraction(priced("12.5%", 1), 1, 8);
        fraction(priced("1% - 2%", 100), 0, 1);
        fraction(priced("99999.999%", MOST), 99999999000L, 1);
        RateShapes x = Check.withTree("0.001/D");
        x.amount(3, 1);
        fraction(x, 1, 1000000);
        x.amount(3, 999);
        fraction(x, 999, 1000000);
        // The greatest rate there is: as many of the greatest shares as 300 signs can hold.
        RateShapes most = priced("99999.999%+".repeat(26) + "99999.999%", MOST);
        fraction(most, 99999999000L * 27, 1);
        RateShapes nothing = priced("1%" + "-99999%".repeat(29), MOST);
        fraction(nothing, 0, 1);
        CHECK.due("far below 0", nothing.part(0), (1 - 29 * 99999L) * MOST * 10000);
    }

    private static void rounded(String text, long price, long... want) {
        RateShapes x = priced(text, price);
        for (int rule = 0; rule < 4; rule++) {
            CHECK.due("cents " + rule + " of " + text + " at " + price, x.cents(rule), want[rule]);
        }
    }

    private static void roundings() {
        rounded("free", 1, 0, 0, 0, 0);
        rounded("100%", 20, 20, 20, 20, 20);
        rounded("100%", 19, 19, 19, 19, 10);
        rounded("100%", 9, 9, 9, 9, 0);
        rounded("50%", 21, 10, 11, 11, 10);
        rounded("49.999%", 21, 10, 10, 11, 10);
        rounded("0.001%", 1, 0, 0, 1, 0);
        rounded("0.5%", 100, 0, 1, 1, 0);
        rounded("99.999%", 10, 9, 10, 10, 0);
        rounded("1%-2%", 150, 0, 0, 0, 0);
        RateShapes x = Check.withTree("19/A + 0.999/B");
        x.amount(0, 1000);
        x.amount(1, 1000);
        CHECK.due("19.999 down", x.cents(0), 19);
        CHECK.due("19.999 nearest", x.cents(1), 20);
        CHECK.due("19.999 up", x.cents(2), 20);
        CHECK.due("19.999 to tens", x.cents(3), 10);
        x.amount(1, 500);
        CHECK.due("19.4995 nearest", x.cents(1), 19);
    }

    private static void parts() {
        RateShapes x = priced("min(1% - 3%, 2/A) + max(free, 2%) - (1% + step(1: 0=3))", 100);
        x.amount(0, 1500);
        long[] want = {-2 + 2 - 4, -2 + 2, -2, -2, 1, 3, 3, 2, 0, 2, 4, 1, 3};
        for (int i = 0; i < want.length; i++) {
            CHECK.due("part " + i, x.part(i), want[i] * 1000000);
        }
        CHECK.due("the rate is not below 0", x.value(0), 0);
        CHECK.due("nor are its cents", x.cents(0), 0);
        x.amount(0, RateShapes.NONE);
        for (int i = 0; i < want.length; i++) {
            boolean holdsUnit = i == 0 || i == 1 || i == 2 || i == 6;
            int node = i;
            CHECK.due("part " + i + " without A", Check.outcome(() -> x.part(node)),
                    holdsUnit ? "UnsupportedOperationException" : Long.toString(want[i] * 1000000));
        }
        RateShapes least = Check.withTree("min(free,1/C)");
        CHECK.dueThrow("both sides count", UnsupportedOperationException.class, () -> least.part(0));
        CHECK.dueThrow("for the value, too", UnsupportedOperationException.class,
                () -> least.value(0));
    }

    private static void steps() {
        RateShapes x = priced("step(100: 50=7, 200=9, 201=4)", 0);
        long[][] want = {{0, 4}, {1, 4}, {49, 4}, {50, 9}, {51, 7}, {100, 7}, {199, 7}, {200, 7},
            {201, 0}, {MOST, 0}};
        for (long[] row : want) {
            x.price(row[0]);
            CHECK.due("step at " + row[0], x.part(0), row[1] * 1000000);
        }
        CHECK.due("step of nothing", priced("step(0: 0=5, 1=6)", 3).cents(0), 5);
        CHECK.due("the most", priced("step(999999: 999999=999999)", 1).cents(0), 999999);
        RateShapes two = priced("step(10: 0=1) - step(20: 100=5, 200=3)", 10);
        CHECK.due("two steps: left", two.part(1), 1000000);
        CHECK.due("two steps: right", two.part(2), 3000000);
    }

    private static void missing() {
        RateShapes x = Check.withTree("1/H+1/C-min(2/H,3/A)+5/D");
        int[] all = {0, 2, 3, 7, RateShapes.NONE};
        for (int i = 0; i < all.length; i++) {
            CHECK.due("missing " + i, x.missing(i), all[i]);
        }
        x.amount(2, 0);
        x.convert(3, 2, 1);
        x.convert(7, 6, 1);
        int[] rest = {0, 7, RateShapes.NONE};
        for (int i = 0; i < rest.length; i++) {
            CHECK.due("still missing " + i, x.missing(i), rest[i]);
        }
        int[] wrong = {-1, 8, 100, Integer.MIN_VALUE, Integer.MAX_VALUE};
        for (int i : wrong) {
            CHECK.due("missing " + i, x.missing(i), RateShapes.NONE);
        }
        x.sign('1');
        x.read();
        CHECK.due("missing without a tree", x.missing(0), RateShapes.NONE);
    }

    private static void wrongCalls() {
        int[] wrongSides = {-1, 2, Integer.MIN_VALUE, Integer.MAX_VALUE};
        int[] wrongRules = {-1, 4, Integer.MIN_VALUE, Integer.MAX_VALUE};
        RateShapes[] objects = {new RateShapes(), Check.withTree("1/A"), Check.withTree("free")};
        for (RateShapes x : objects) {
            for (int side : wrongSides) {
                CHECK.dueThrow("value " + side, IllegalArgumentException.class, () -> x.value(side));
            }
            for (int rule : wrongRules) {
                CHECK.dueThrow("cents " + rule, IllegalArgumentException.class, () -> x.cents(rule));
            }
            int[] wrongNodes = {-1, 1, 60, Integer.MIN_VALUE, Integer.MAX_VALUE};
            for (int i : wrongNodes) {
                CHECK.dueThrow("part " + i, IndexOutOfBoundsException.class, () -> x.part(i));
            }
        }
        for (int rule = 0; rule < 4; rule++) {
            int which = rule;
            CHECK.dueThrow("cents without a tree", IllegalStateException.class,
                    () -> objects[0].cents(which));
            CHECK.dueThrow("cents without A", UnsupportedOperationException.class,
                    () -> objects[1].cents(which));
        }
        for (int side = 0; side < 2; side++) {
            int which = side;
            CHECK.dueThrow("value without a tree", IllegalStateException.class,
                    () -> objects[0].value(which));
            CHECK.dueThrow("value without A", UnsupportedOperationException.class,
                    () -> objects[1].value(which));
        }
    }

    private static void stepCall() {
        RateShapes x = new RateShapes();
        long most = 1000000000L;
        CHECK.due("step 100 30", x.step(100, 30), 333);
        CHECK.due("step 0 1", x.step(0, 1), 0);
        CHECK.due("step 1 101", x.step(1, 101), 0);
        CHECK.due("step 1 100", x.step(1, 100), 1);
        CHECK.due("step most 1", x.step(most, 1), most * 100);
        CHECK.due("step most most", x.step(most, most), 100);
        long[] wrong = {-1, most + 1, Long.MIN_VALUE, Long.MAX_VALUE};
        for (long money : wrong) {
            CHECK.dueThrow("step " + money, IllegalArgumentException.class, () -> x.step(money, 1));
            CHECK.dueThrow("step at " + money, IllegalArgumentException.class, () -> x.step(1, money));
            CHECK.dueThrow("step at 0", IllegalArgumentException.class, () -> x.step(money, 0));
        }
        CHECK.dueThrow("step 0 0", ArithmeticException.class, () -> x.step(0, 0));
        CHECK.dueThrow("step most 0", ArithmeticException.class, () -> x.step(most, 0));
    }
}
