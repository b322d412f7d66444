/** Promises 12 and 13: what is printed, and its signs. */
public final class PrintTest {
    private static final Check CHECK = new Check("PrintTest");

    public static void main(String[] args) {
        numbers();
        shapes();
        brackets();
        longest();
        signs();
        CHECK.end();
    }

    private static void prints(String text, String want) {
        RateShapes x = Check.withTree(text);
        CHECK.due("print of " + text, Check.printed(x), want);
        CHECK.due("signs of " + text, x.count(2), want.length());
    }

    private static void numbers() {
        prints("5%", "5%");
        prints("005.500%", "5.5%");
        prints("0.5%", "0.5%");
        prints("00.050/B", "0.05/B");
        prints("00000.000%", "0%");
        prints("10.010%", "10.01%");
        prints("100/A", "100/A");
        prints("99999.999/H", "99999.999/H");
        prints("0.001%", "0.001%");
        prints("12.3%", "12.3%");
        prints("10000%", "10000%");
        prints("01020.304%", "1020.304%");
    }

    private static void shapes() {
        prints(" free ", "free");
        prints("1 /C", "1/C");
        prints("1%+2%", "1% + 2%");
        prints("1%-2%", "1% - 2%");
        prints("min( 1%,2%)", "min(1%, 2%)");
        prints("max(1%  ,2%)", "max(1%, 2%)");
        prints("step(000100:00=007)", "step(100: 0=7)");
        prints("step(0:0=0,999999=999999)", "step(0: 0=0, 999999=999999)");
        prints("step(1:1=1,2=2,3=3,4=4,5=5,6=6)", "step(1: 1=1, 2=2, 3=3, 4=4, 5=5, 6=6)");
        prints("step(1:100000=1)-step(2:10=20,30=40)", "step(1: 100000=1) - step(2: 10=20, 30=40)");
        prints("max(10%,min(1/B,3%))-free", "max(10%, min(1/B, 3%)) - free");
    }

    private static void brackets() {
        prints("((free))", "free");
        prints("(1%+2%)-3%", "1% + 2% - 3%");
        prints("1%-2%+3%", "1% - 2% + 3%");
        prints("1%-(2%+3%)", "1% - (2% + 3%)");
        prints("1%+(2%-3%)", "1% + (2% - 3%)");
        prints("1%+(2%+3%)", "1% + (2% + 3%)");
        prints("1%-(2%)", "1% - 2%");
        prints("1%-(min(1%,2%))", "1% - min(1%, 2%)");
        prints("1%-(step(1:1=1))", "1% - step(1: 1=1)");
        prints("min((1%+2%),(1%-2%))", "min(1% + 2%, 1% - 2%)");
        prints("(1%+(2%-(3%+4%)))-(5%-6%)", "1% + (2% - (3% + 4%)) - (5% - 6%)");
    }

    private static void longest() {
        prints("0%+".repeat(29) + "0%", "0% + ".repeat(29) + "0%");
        String step = "step(1:1=1,2=1,3=1,4=1,5=1,6=1)+";
        String printed = "step(1: 1=1, 2=1, 3=1, 4=1, 5=1, 6=1) + ";
        prints(step.repeat(9) + "free", printed.repeat(9) + "free");
    }

    private static void signs() {
        RateShapes x = new RateShapes();
        CHECK.dueThrow("print without a tree", IllegalStateException.class, () -> x.print());
        CHECK.dueThrow("at before", IndexOutOfBoundsException.class, () -> x.at(0));
        Check.read(x, "1%+2%");
        CHECK.dueThrow("read alone prints nothing", IndexOutOfBoundsException.class, () -> x.at(0));
        CHECK.due("print", x.print(), 7);
        CHECK.due("at 0", x.at(0), '1');
        CHECK.due("at 3", x.at(3), '+');
        CHECK.due("at 6", x.at(6), '%');
        int[] wrong = {-1, 7, 900, Integer.MIN_VALUE, Integer.MAX_VALUE};
        for (int i : wrong) {
            CHECK.dueThrow("at " + i, IndexOutOfBoundsException.class, () -> x.at(i));
        }
        Check.read(x, "free");
        CHECK.due("what was printed last stays", x.at(3), '+');
        CHECK.due("the text of what is read does not print", x.count(2), 7);
        Check.read(x, "fre");
        CHECK.dueThrow("no tree to print", IllegalStateException.class, () -> x.print());
        CHECK.due("it stays without a tree", x.at(6), '%');
        CHECK.due("count of it", x.count(2), 7);
        Check.read(x, "free");
        CHECK.due("print free", x.print(), 4);
        CHECK.due("at 3 of free", x.at(3), 'e');
        CHECK.dueThrow("at 4 of free", IndexOutOfBoundsException.class, () -> x.at(4));
    }
}
