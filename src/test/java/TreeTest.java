/** Promises 9 and 15: the nodes, their numbers, and what is counted. */
public final class TreeTest {
    private static final Check CHECK = new Check("TreeTest");

    public static void main(String[] args) {
        kinds();
        order();
        wrongNodes();
        counts();
        CHECK.end();
    }

    private static void nodes(String text, String... want) {
        RateShapes x = Check.withTree(text);
        CHECK.due("nodes of " + text, x.count(1), want.length);
        for (int i = 0; i < want.length && i < x.count(1); i++) {
            CHECK.due("node " + i + " of " + text, Check.node(x, i), want[i]);
        }
    }

    /** Kind, number, unit, left, right, rows. */
    private static void kinds() {
        nodes("free", "0 0 -1 -1 -1 0");
        nodes("12.34%", "1 12340 -1 -1 -1 0");
        nodes("99999.999/H", "2 99999999 7 -1 -1 0");
        nodes("0.001/A", "2 1 0 -1 -1 0");
        nodes("0.1%", "1 100 -1 -1 -1 0");
        nodes("1%+2%", "3 0 -1 1 2 0", "1 1000 -1 -1 -1 0", "1 2000 -1 -1 -1 0");
        nodes("1%-free", "4 0 -1 1 2 0", "1 1000 -1 -1 -1 0", "0 0 -1 -1 -1 0");
        nodes("min(1%,free)", "5 0 -1 1 2 0", "1 1000 -1 -1 -1 0", "0 0 -1 -1 -1 0");
        nodes("max(1%,free)", "6 0 -1 1 2 0", "1 1000 -1 -1 -1 0", "0 0 -1 -1 -1 0");
        nodes("step(999999:1=2)", "7 999999 -1 -1 -1 1");
        nodes("step(007:1=2,3=4,5=6,7=8,9=10,11=12)", "7 7 -1 -1 -1 6");
        nodes("((free))", "0 0 -1 -1 -1 0");
    }

    private static void order() {
        nodes("1%-2/B+3%",
                "3 0 -1 1 4 0", "4 0 -1 2 3 0", "1 1000 -1 -1 -1 0", "2 2000 1 -1 -1 0",
                "1 3000 -1 -1 -1 0");
        nodes("1%-(2/B+3%)",
                "4 0 -1 1 2 0", "1 1000 -1 -1 -1 0", "3 0 -1 3 4 0", "2 2000 1 -1 -1 0",
                "1 3000 -1 -1 -1 0");
        nodes("min(1%+2%,step(5:1=1,2=2))-max(3%,4%-5%)+free",
                "3 0 -1 1 12 0",
                "4 0 -1 2 7 0",
                "5 0 -1 3 6 0",
                "3 0 -1 4 5 0", "1 1000 -1 -1 -1 0", "1 2000 -1 -1 -1 0",
                "7 5 -1 -1 -1 2",
                "6 0 -1 8 9 0", "1 3000 -1 -1 -1 0",
                "4 0 -1 10 11 0", "1 4000 -1 -1 -1 0", "1 5000 -1 -1 -1 0",
                "0 0 -1 -1 -1 0");
    }

    private static void wrongNodes() {
        RateShapes x = Check.withTree("1%+2%");
        int[] wrong = {-1, 3, 60, Integer.MIN_VALUE, Integer.MAX_VALUE};
        for (int i : wrong) {
            CHECK.dueThrow("node " + i, IndexOutOfBoundsException.class, () -> x.node(i, 0));
        }
        int[] wrongWhat = {-1, 6, Integer.MIN_VALUE, Integer.MAX_VALUE};
        for (int what : wrongWhat) {
            CHECK.dueThrow("node 0, " + what, IndexOutOfBoundsException.class, () -> x.node(0, what));
        }
        Check.read(x, "free");
        CHECK.dueThrow("a node of the tree before", IndexOutOfBoundsException.class,
                () -> x.node(1, 0));
        // What the bigger tree before held must not shine through.
        CHECK.due("free after a sum", Check.node(x, 0), "0 0 -1 -1 -1 0");
    }

    private static void counts() {
        RateShapes x = Check.withTree("max(10%,min(1/B,(3%)))-((free))");
        CHECK.due("nodes", x.count(1), 7);
        CHECK.due("nested", x.count(3), 3);
        CHECK.due("printed before", x.count(2), 0);
        x.print();
        CHECK.due("printed", x.count(2), 29);
        x.sign('1');
        x.sign('%');
        CHECK.due("signs", x.count(0), 2);
        x.read();
        CHECK.due("signs after read", x.count(0), 0);
        CHECK.due("nested of the next", x.count(3), 0);
        CHECK.due("printed last", x.count(2), 29);
        int[] wrong = {-1, 4, Integer.MIN_VALUE, Integer.MAX_VALUE};
        for (int what : wrong) {
            CHECK.due("count " + what, x.count(what), RateShapes.NONE);
        }
        CHECK.due("nested: a step", Check.withTree("step(1:1=1)").count(3), 0);
        CHECK.due("nested: brackets", Check.withTree("(1%)+((1%))+(1%)").count(3), 2);
        CHECK.due("nested: twelve", Check.withTree("(".repeat(12) + "1%" + ")".repeat(12)).count(3), 12);
    }
}
