import java.util.Random;
import java.util.function.LongSupplier;

/** Calls in any order with any arguments: only what the document names is thrown, and it changes nothing. */
public final class WildTest {
    private static final Check CHECK = new Check("WildTest");
    private static final Random RANDOM = new Random(512);
    private static final int[] WILD = {Integer.MIN_VALUE, -2, -1, 0, 1, 2, 3, 4, 5, 6, 7, 8, 59, 60, 299,
        300, 899, 900, 1000, 1001, Integer.MAX_VALUE};
    private static final long[] WILD_LONG = {Long.MIN_VALUE, -2, -1, 0, 1, 99, 100000000L, 100000001L,
        1000000000L, 1000000001L, Long.MAX_VALUE};
    private static final String[] RATES = {"1/A+2.5%", "min(step(5:1=2,3=4),7/H)", "1%-(2/C-3/D)", "free",
        "1/", "min(1%", "((", "step(1:1=1,1=1)", "0%+".repeat(31)};

    public static void main(String[] args) {
        for (int run = 0; run < 3000; run++) {
            RateShapes x = new RateShapes();
            for (int call = 0; call < 80; call++) {
                anyCall(x);
            }
        }
        CHECK.end();
    }

    private static int any() {
        return WILD[RANDOM.nextInt(WILD.length)];
    }

    private static long anyLong() {
        return WILD_LONG[RANDOM.nextInt(WILD_LONG.length)];
    }

    private static void anyCall(RateShapes x) {
        int i = any();
        int k = any();
        int m = any();
        long a = anyLong();
        long b = anyLong();
        switch (RANDOM.nextInt(14)) {
            case 0:
                only(x, "", () -> x.sign(RANDOM.nextBoolean() ? i : 32 + RANDOM.nextInt(95)) ? 1 : 0);
                break;
            case 1:
                only(x, "", () -> anyRead(x));
                break;
            case 2:
                only(x, "", () -> x.price(a) ? 1 : 0);
                break;
            case 3:
                only(x, "", () -> x.amount(i, a) ? 1 : 0);
                break;
            case 4:
                only(x, "", () -> x.convert(i, k, m) ? 1 : 0);
                break;
            case 5:
                only(x, "IllegalArgument IllegalState UnsupportedOperation", () -> x.value(i));
                break;
            case 6:
                only(x, "IllegalArgument IllegalState UnsupportedOperation", () -> x.cents(i));
                break;
            case 7:
                only(x, "IndexOutOfBounds", () -> x.node(i, k));
                break;
            case 8:
                only(x, "IndexOutOfBounds UnsupportedOperation", () -> x.part(i));
                break;
            case 9:
                only(x, "", () -> x.missing(i));
                break;
            case 10:
                only(x, "IllegalState", () -> x.print());
                break;
            case 11:
                only(x, "IndexOutOfBounds", () -> x.at(i));
                break;
            case 12:
                only(x, "IllegalArgument Arithmetic", () -> x.step(a, b));
                break;
            default:
                only(x, "", () -> x.count(i));
                break;
        }
    }

    private static int anyRead(RateShapes x) {
        String rate = RATES[RANDOM.nextInt(RATES.length)];
        for (int i = 0; i < rate.length(); i++) {
            x.sign(rate.charAt(i));
        }
        return x.read();
    }

    private static void only(RateShapes x, String allowed, LongSupplier call) {
        String before = Check.state(x);
        String answer = Check.outcome(call);
        if (answer.endsWith("Exception")) {
            String name = answer.substring(0, answer.length() - "Exception".length());
            CHECK.due(answer + " is one of " + allowed, (" " + allowed + " ").contains(" " + name + " "),
                    true);
            CHECK.due("what throws changes nothing", Check.state(x), before);
        }
    }
}
