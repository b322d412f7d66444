/** Promises 2 and 3: the text, the grammar and the least bad place. */
public final class ReadTest {
    private static final Check CHECK = new Check("ReadTest");

    public static void main(String[] args) {
        signs();
        rightTexts();
        wrongParts();
        wrongNumbersAndWords();
        wrongSteps();
        blanks();
        nodeLimit();
        deepLimit();
        usedUp();
        CHECK.end();
    }

    private static void reads(String text, int want) {
        CHECK.due("read \"" + text + "\"", Check.read(new RateShapes(), text), want);
    }

    private static void bad(String text, int place) {
        reads(text, -1 - place);
    }

    private static void signs() {
        RateShapes x = new RateShapes();
        int[] wrong = {31, 127, 0, -1, 128, 1000, Integer.MIN_VALUE, Integer.MAX_VALUE, 256 + 32};
        for (int c : wrong) {
            CHECK.due("sign(" + c + ")", x.sign(c), false);
        }
        CHECK.due("signs after wrong ones", x.count(0), 0);
        for (int c = 32; c <= 126; c++) {
            CHECK.due("sign(" + c + ")", x.sign(c), true);
        }
        CHECK.due("signs after right ones", x.count(0), 95);
        for (int i = 95; i < 300; i++) {
            CHECK.due("sign " + i, x.sign(' '), true);
        }
        CHECK.due("the 301st sign", x.sign('1'), false);
        CHECK.due("signs when full", x.count(0), 300);
        CHECK.due("read of what is none", x.read(), -2);
        CHECK.due("a sign after it", x.sign('1'), true);
    }

    private static void rightTexts() {
        reads("free", 1);
        reads("0%", 1);
        reads("99999.999%", 1);
        reads("00000.000/A", 1);
        reads("7/H", 1);
        reads("1%+2%", 3);
        reads("1%-2%+free", 5);
        reads("(1%)", 1);
        reads("1%-(2%+3/C)", 5);
        reads("min(1%,2%)", 3);
        reads("max(min(1%,2%)+free,(free))", 7);
        reads("step(0:0=0)", 1);
        reads("step(999999:999999=999999)", 1);
        reads("step(1:1=1,2=1,3=1,4=1,5=1,6=1)", 1);
        reads("step(1:000001=9,000002=0)-free", 3);
        reads("(((1%)+2%)-3%)", 5);
    }

    private static void wrongParts() {
        bad("", 0);
        bad("+", 0);
        bad("%", 0);
        bad(")", 0);
        bad("A", 0);
        bad("1%+", 3);
        bad("1%++2%", 3);
        bad("1%-)", 3);
        bad("1%2%", 2);
        bad("1%)", 2);
        bad("1%,", 2);
        bad("1", 1);
        bad("1+", 1);
        bad("1A", 1);
        bad("1/", 2);
        bad("1/a", 2);
        bad("1/I", 2);
        bad("1/@", 2);
        bad("1/1", 2);
        bad("1/AB", 3);
        bad("1/A%", 3);
        bad("()", 1);
        bad("(", 1);
        bad("(1%", 3);
        bad("(1%,2%)", 3);
        bad("((1%)", 5);
        bad("min", 3);
        bad("min1", 3);
        bad("min(", 4);
        bad("min()", 4);
        bad("min(1%)", 6);
        bad("min(1%,)", 7);
        bad("min(1%,2%", 9);
        bad("min(1%,2%,3%)", 9);
        bad("max(1%;2%)", 6);
        bad("free(", 4);
        bad("1%free", 2);
        bad("1%=", 2);
    }

    private static void wrongNumbersAndWords() {
        bad("000001%", 0);
        bad("123456", 0);
        bad("1.%", 0);
        bad("1.", 0);
        bad("1.2345%", 0);
        bad("1%+1.2345%", 3);
        bad("1%+ 123456.1%", 4);
        bad(".5%", 0);
        bad("1.5.5%", 3);
        bad("1,5%", 1);
        bad("fre", 0);
        bad("frees", 0);
        bad("freefree", 0);
        bad("Free", 0);
        bad("FREE", 0);
        bad("mi(1%,2%)", 0);
        bad("mix(1%,2%)", 0);
        bad("minmax(1%,2%)", 0);
        bad("1% - steps(1:1=1)", 5);
        bad("freeA", 4);
        bad("free1", 4);
    }

    private static void wrongSteps() {
        bad("step", 4);
        bad("step1", 4);
        bad("step(", 5);
        bad("step()", 5);
        bad("step(1", 6);
        bad("step(1)", 6);
        bad("step(1.5:1=1)", 6);
        bad("step(1234567:1=1)", 5);
        bad("step(1:", 7);
        bad("step(1:)", 7);
        bad("step(1:1", 8);
        bad("step(1:1)", 8);
        bad("step(1:1=", 9);
        bad("step(1:1=)", 9);
        bad("step(1:1=1", 10);
        bad("step(1:1=1.5)", 10);
        bad("step(1:1=1,", 11);
        bad("step(1:1=1,)", 11);
        bad("step(1:1=1;2=2)", 10);
        bad("step(1:0000001=1)", 7);
        bad("step(1:1=0000001)", 9);
        bad("step(1:5=1,5=2)", 11);
        bad("step(1:5=1,4=2)", 11);
        bad("step(1:5=1, 05=2)", 12);
        bad("step(1:1=1,2=2,2=3,x", 15);
        // What is wrong within a row comes ahead of its being a wrong row.
        bad("step(1:5=1,5)", 12);
        bad("step(1:5=1,5=)", 13);
        bad("step(1:5=1,5=1234567)", 13);
        bad("step(1:5=1,5=2", 11);
        bad("step(1:1=1,2=1,3=1,4=1,5=1,6=1,7=1)", 31);
        bad("step(1:1=1,2=1,3=1,4=1,5=1,6=1, 7=1", 32);
        bad("step(1:1=1,2=1,3=1,4=1,5=1,6=1,1=1)", 31);
        bad("step(1:1=1,2=1,3=1,4=1,5=1,6=1,7)", 32);
        bad("step(1:1=1,2=1,3=1,4=1,5=1,6=1,7=x)", 33);
        bad("step(1:1=1,2=1,3=1,4=1,5=1,6=1,", 31);
    }

    private static void blanks() {
        reads("  1.5  %  +  2  /  A  ", 3);
        reads(" min ( 1 % , ( free ) ) ", 3);
        reads(" step ( 1 : 1 = 1 , 2 = 2 ) ", 1);
        bad("   ", 3);
        bad("1 2%", 2);
        bad("1 .5%", 2);
        bad("1. 5%", 0);
        bad("fr ee", 0);
        bad("1%  x", 4);
        bad("1  ", 3);
        bad("1 % + ", 6);
        bad("step(1 2:1=1)", 7);
    }

    /** A sum of so many free parts that make 2 * parts - 1 nodes. */
    private static String sum(int parts) {
        return "0%+".repeat(parts - 1) + "0%";
    }

    private static void nodeLimit() {
        reads(sum(30), 59);
        bad(sum(31), 90);
        bad(sum(30) + "+", 90);
        bad(sum(30) + "+ x", 91);
        bad(sum(30) + "+ free", 91);
        bad(sum(30) + "+min(1%,1%)", 90);
        bad(sum(30) + "+step(1:1=1)", 90);
        bad(sum(30) + "+5", 90);
        bad(sum(30) + "+(1%)", 91);
        // With a min ahead the 60th node is a part, so that a sign is the 61st.
        bad("min(" + sum(30) + "+1%,1%)", 93);
        bad("min(" + sum(30) + "-", 93);
        bad("min(" + sum(30) + ",1%)", 94);
        reads("min(" + sum(29) + ",1%)", 59);
        reads("1%-(" + sum(29) + ")", 59);
        bad("1%-(" + sum(30) + ")", 4 + 87);
    }

    private static void deepLimit() {
        reads("(".repeat(12) + "1%" + ")".repeat(12), 1);
        bad("(".repeat(13) + "1%" + ")".repeat(13), 12);
        reads("min(1%,".repeat(12) + "1%" + ")".repeat(12), 25);
        bad("min(1%,".repeat(12) + " min(1%,1%)" + ")".repeat(12), 85);
        bad("max(".repeat(12) + "max", 48);
        bad("max(".repeat(12) + "maxi", 48);
        bad("(".repeat(6) + "min(".repeat(6) + "(1%", 30);
        reads("(".repeat(12) + "step(1:1=1)" + ")".repeat(12), 1);
        reads("(".repeat(12) + "1%" + ")".repeat(12) + "+(1%)+min(1%,(1%))", 7);
    }

    private static void usedUp() {
        RateShapes x = new RateShapes();
        CHECK.due("read 1%+free", Check.read(x, "1%+free"), 3);
        CHECK.due("signs after read", x.count(0), 0);
        x.sign('5');
        CHECK.due("the tree stays while signs come", x.count(1), 3);
        CHECK.due("read 5", x.read(), -2);
        CHECK.due("signs after a bad read", x.count(0), 0);
        CHECK.due("nodes after a bad read", x.count(1), 0);
        CHECK.due("nested after a bad read", x.count(3), 0);
        CHECK.dueThrow("node after a bad read", IndexOutOfBoundsException.class, () -> x.node(0, 0));
        CHECK.due("read again", Check.read(x, "free"), 1);
        CHECK.due("read of nothing", x.read(), -1);
        CHECK.due("nodes after it", x.count(1), 0);
    }
}
