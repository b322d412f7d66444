import java.math.BigDecimal;
import java.math.BigInteger;
import java.math.RoundingMode;
import java.util.List;
import java.util.Random;

/** Many rates, right and wrong ones, against the second reading of the document in Oracle. */
public final class OracleTest {
    private static final Check CHECK = new Check("OracleTest");
    private static final String SIGNS = "0123456789.%/ABHI(),:=+- freeminmaxstepxz~!";
    private static final String[] PIECES = {"free", "min(", "max(", "step(", "1%", "2.5/A", "3/H", "(",
        ")", ",", "+", "-", ":", "=", "12", "0.001", " ", "step(9:1=1", "5=2", "fre", "1234567", "I"};
    // The seed is fixed: the same rates every time.
    private static final Random RANDOM = new Random(20261115);

    public static void main(String[] args) {
        int good = 0;
        for (int round = 0; round < 40000; round++) {
            RateShapes x = new RateShapes();
            Oracle oracle = new Oracle();
            tellMoney(x, oracle);
            String text = text(round);
            for (int i = 0; i < text.length(); i++) {
                x.sign(text.charAt(i));
            }
            int want = oracle.read(text);
            good += want > 0 ? 1 : 0;
            int got = x.read();
            CHECK.due("read \"" + text + "\"", got, want);
            if (got == want) {
                compare(x, oracle, text);
            }
        }
        System.out.println(good + " of the rates were right ones");
        CHECK.due("enough right rates", good > 10000 && good < 30000, true);
        CHECK.end();
    }

    private static String text(int round) {
        String text;
        if (round % 4 == 0) {
            StringBuilder pieces = new StringBuilder();
            int count = RANDOM.nextInt(12);
            for (int i = 0; i < count; i++) {
                pieces.append(PIECES[RANDOM.nextInt(PIECES.length)]);
            }
            text = pieces.toString();
        } else {
            StringBuilder rate = new StringBuilder();
            putRate(rate, RANDOM.nextInt(14), RANDOM.nextInt(10) == 0);
            text = rate.toString();
        }
        text = text.substring(0, Math.min(300, text.length()));
        return round % 4 == 1 ? spoiled(text) : text;
    }

    private static String spoiled(String text) {
        int at = RANDOM.nextInt(text.length());
        String sign = String.valueOf(SIGNS.charAt(RANDOM.nextInt(SIGNS.length())));
        switch (RANDOM.nextInt(4)) {
            case 0:
                return text.substring(0, at);
            case 1:
                return text.substring(0, at) + text.substring(at + 1);
            case 2:
                return text.substring(0, at) + sign + text.substring(at + 1);
            default:
                String longer = text.substring(0, at) + sign + text.substring(at);
                return longer.substring(0, Math.min(300, longer.length()));
        }
    }

    private static void putRate(StringBuilder rate, int deep, boolean wide) {
        putPart(rate, deep);
        int more = wide ? RANDOM.nextInt(12) : RANDOM.nextInt(3);
        for (int i = 0; i < more && rate.length() < 280; i++) {
            put(rate, RANDOM.nextBoolean() ? "+" : "-");
            putPart(rate, deep);
        }
    }

    private static void putPart(StringBuilder rate, int deep) {
        int kind = RANDOM.nextInt(deep > 0 && rate.length() < 200 ? 9 : 4);
        switch (kind) {
            case 0:
                put(rate, "free");
                break;
            case 1:
                put(rate, decimal());
                put(rate, "%");
                break;
            case 2:
                put(rate, decimal());
                put(rate, "/");
                put(rate, String.valueOf((char) ('A' + RANDOM.nextInt(8))));
                break;
            case 3:
                putSteps(rate);
                break;
            case 4:
            case 5:
                put(rate, "(");
                putRate(rate, deep - 1, false);
                put(rate, ")");
                break;
            default:
                put(rate, kind == 6 ? "min" : "max");
                put(rate, "(");
                putRate(rate, deep - 1, false);
                put(rate, ",");
                putRate(rate, deep - 1, false);
                put(rate, ")");
                break;
        }
    }

    private static void putSteps(StringBuilder rate) {
        put(rate, "step");
        put(rate, "(");
        put(rate, digits(1 + RANDOM.nextInt(6)));
        put(rate, ":");
        int rows = 1 + RANDOM.nextInt(RANDOM.nextInt(20) == 0 ? 7 : 4);
        int bound = RANDOM.nextInt(60);
        for (int row = 0; row < rows; row++) {
            put(rate, row == 0 ? "" : ",");
            put(rate, String.valueOf(bound));
            put(rate, "=");
            put(rate, digits(1 + RANDOM.nextInt(4)));
            bound += RANDOM.nextInt(40) == 0 ? 0 : 1 + RANDOM.nextInt(300);
        }
        put(rate, ")");
    }

    private static void put(StringBuilder rate, String piece) {
        rate.append(piece).append(" ".repeat(RANDOM.nextInt(8) == 0 ? RANDOM.nextInt(3) : 0));
    }

    private static String decimal() {
        String whole = digits(1 + RANDOM.nextInt(RANDOM.nextInt(60) == 0 ? 6 : 5));
        return RANDOM.nextBoolean() ? whole : whole + "." + digits(1 + RANDOM.nextInt(3));
    }

    private static String digits(int count) {
        StringBuilder digits = new StringBuilder();
        for (int i = 0; i < count; i++) {
            digits.append(RANDOM.nextInt(3) == 0 ? 0 : RANDOM.nextInt(10));
        }
        return digits.toString();
    }

    private static void tellMoney(RateShapes x, Oracle oracle) {
        long price = RANDOM.nextInt(8) == 0 ? 0 : some(100000000);
        CHECK.due("price " + price, x.price(price), true);
        oracle.price = BigInteger.valueOf(price);
        for (int i = RANDOM.nextInt(10); i > 0; i--) {
            int unit = RANDOM.nextInt(8);
            int to = RANDOM.nextInt(8);
            int times = (int) (some(1001) % 1001);
            CHECK.due("convert " + unit + " " + to + " " + times, x.convert(unit, to, times),
                    oracle.convert(unit, to, times));
        }
        for (int i = RANDOM.nextInt(14); i > 0; i--) {
            int unit = RANDOM.nextInt(8);
            long amount = RANDOM.nextInt(5) == 0 ? -1 : some(100000000);
            CHECK.due("amount " + unit + " " + amount, x.amount(unit, amount), true);
            oracle.own[unit] = amount < 0 ? null : BigInteger.valueOf(amount);
        }
    }

    /** Small numbers as often as great ones. */
    private static long some(int most) {
        int bound = 1;
        for (int i = RANDOM.nextInt(9); i > 0 && bound < most; i--) {
            bound = Math.min(most, bound * 10);
        }
        return RANDOM.nextInt(bound + 1);
    }

    private static void compare(RateShapes x, Oracle oracle, String text) {
        int size = oracle.nodes.size();
        CHECK.due("nodes of " + text, x.count(1), size);
        CHECK.due("nested in " + text, x.count(3), oracle.deepest);
        List<Integer> missing = oracle.missing();
        for (int i = 0; i < 9; i++) {
            int unit = i < missing.size() ? missing.get(i) : -1;
            CHECK.due("missing " + i + " in " + text, x.missing(i), unit);
        }
        for (int i = 0; i < size; i++) {
            Oracle.Node node = oracle.nodes.get(i);
            int index = i;
            BigDecimal cents = oracle.cents(node);
            CHECK.due("node " + i + " of " + text, Check.node(x, i), Oracle.show(node));
            CHECK.due("part " + i + " of " + text, Check.outcome(() -> x.part(index)),
                    cents == null ? "UnsupportedOperationException"
                            : cents.movePointRight(6).toBigIntegerExact().toString());
        }
        if (size > 0) {
            compareRate(x, oracle.cents(oracle.nodes.get(0)), text);
            comparePrint(x, Oracle.print(oracle.nodes.get(0)), text);
        }
    }

    private static void compareRate(RateShapes x, BigDecimal cents, String text) {
        String[] want = {"UnsupportedOperationException", "UnsupportedOperationException",
            "UnsupportedOperationException", "UnsupportedOperationException"};
        String above = want[0];
        String below = want[0];
        if (cents != null) {
            BigDecimal rate = cents.max(BigDecimal.ZERO);
            want[0] = rate.setScale(0, RoundingMode.FLOOR).toPlainString();
            want[1] = rate.setScale(0, RoundingMode.HALF_UP).toPlainString();
            want[2] = rate.setScale(0, RoundingMode.CEILING).toPlainString();
            want[3] = rate.setScale(-1, RoundingMode.FLOOR).toPlainString();
            BigInteger micros = rate.movePointRight(6).toBigIntegerExact();
            BigInteger common = micros.gcd(BigInteger.valueOf(1000000));
            above = micros.divide(common).toString();
            below = BigInteger.valueOf(1000000).divide(common).toString();
        }
        for (int rule = 0; rule < 4; rule++) {
            int which = rule;
            CHECK.due("cents " + rule + " of " + text, Check.outcome(() -> x.cents(which)), want[rule]);
        }
        CHECK.due("value 0 of " + text, Check.outcome(() -> x.value(0)), above);
        CHECK.due("value 1 of " + text, Check.outcome(() -> x.value(1)), below);
    }

    /** Read again, what was printed has the same nodes. */
    private static void comparePrint(RateShapes x, String want, String text) {
        String printed = Check.printed(x);
        CHECK.due("print of " + text, printed, want);
        if (printed.length() > 300) {
            return;
        }
        RateShapes again = new RateShapes();
        CHECK.due("read again " + printed, Check.read(again, printed), x.count(1));
        for (int i = 0; i < again.count(1); i++) {
            CHECK.due("node " + i + " again of " + printed, Check.node(again, i), Check.node(x, i));
        }
    }
}
