import java.util.Arrays;

/**
 * The boundary cases that the section 'Terms' names of the text and the tree, a method for each
 * sentence: what is just within the bound is taken, what is just beyond it is refused at the place that
 * is due.
 */
public final class TermsBoundsTest {
    private static final Check CHECK = new Check("TermsBoundsTest");

    public static void main(String[] args) {
        text300AtMost();
        fullTextIsRead();
        blanksBetweenAll();
        noBlanksWithin();
        onlySign32IsABlank();
        rateIsPartsAndSigns();
        everyKindOfPart();
        everyCut();
        rowsOneToSix();
        firstNumbersRise();
        numberDigits();
        numberDigitsBehindThePoint();
        wholeDigits();
        unitLetters();
        smallLetters();
        sixtyNodes();
        sixtiethNodeIsTaken();
        sixtyFirstNodeIsToldAtItsFirstSign();
        twelveDeep();
        thirteenthDeepIsToldAtItsFirstSign();
        onlyWhatIsOpenCounts();
        fromTheLeft();
        bracketsMakeNoNode();
        wordThatIsNone();
        numberThatIsNone();
        endsTooEarly();
        rowFaultBehindFaultsWithin();
        leastPlaceOfSeveral();
        CHECK.end();
    }

    private static void reads(String text, int nodes) {
        CHECK.due("read \"" + text + "\"", Check.read(new RateShapes(), text), nodes);
    }

    private static void bad(String text, int place) {
        reads(text, -1 - place);
    }

    /** So many shares in a row: 2 * parts - 1 nodes, 3 * parts - 1 signs. */
    private static String sum(int parts) {
        return "0%+".repeat(parts - 1) + "0%";
    }

    /** So many rows that rise, from 1=0 on; each takes three signs. */
    private static String rows(int rows) {
        StringBuilder text = new StringBuilder();
        for (int row = 1; row <= rows; row++) {
            text.append(row == 1 ? "" : ",").append(row).append("=0");
        }
        return text.toString();
    }

    // THE TEXT is collected sign by sign (300 at most).

    private static void text300AtMost() {
        RateShapes x = new RateShapes();
        for (int i = 0; i < 300; i++) {
            CHECK.due("sign " + i, x.sign('('), true);
            if (i % 50 == 49) {
                CHECK.due("signs then", x.count(0), i + 1);
            }
        }
        CHECK.due("sign 300", x.sign('('), false);
        CHECK.due("again", x.sign(' '), false);
        CHECK.due("signs when full", x.count(0), 300);
        CHECK.due("the 13th is bad", x.read(), -13);
        CHECK.due("room again", x.sign('('), true);
    }

    private static void fullTextIsRead() {
        reads(" ".repeat(298) + "1%", 1);
        reads("1%" + " ".repeat(298), 1);
        bad(" ".repeat(299) + "1", 300);
        bad(" ".repeat(300), 300);
        bad("1%" + " ".repeat(297) + "x", 299);
        RateShapes x = new RateShapes();
        for (int i = 0; i < 299; i++) {
            x.sign(' ');
        }
        x.sign('1');
        CHECK.due("one sign too many", x.sign('%'), false);
        CHECK.due("is not in the text", x.read(), -301);
    }

    // BLANKS (32) may stand between what is told below, not within numbers and words.

    private static final String[] PIECES = {"min", "(", "12.5", "%", "+", "(", "free", ")", "-", "3", "/",
        "H", ",", "step", "(", "100", ":", "50", "=", "7", ",", "200", "=", "9", ")", ")", "-", "max", "(",
        "free", ",", "0", "%", ")"};

    private static void blanksBetweenAll() {
        for (int many = 0; many < 4; many++) {
            String gap = " ".repeat(many);
            reads(gap + String.join(gap, PIECES) + gap, 11);
        }
        for (int at = 0; at <= PIECES.length; at++) {
            String before = String.join("", Arrays.copyOfRange(PIECES, 0, at));
            String behind = String.join("", Arrays.copyOfRange(PIECES, at, PIECES.length));
            reads(before + " " + behind, 11);
        }
    }

    private static void noBlanksWithin() {
        bad("f ree", 0);
        bad("fre e", 0);
        bad("m in(1%,1%)", 0);
        bad("ma x(1%,1%)", 0);
        bad("1%+s tep(1:1=1)", 3);
        bad("1%+ste p(1:1=1)", 3);
        bad("1 2%", 2);
        bad("1 .2%", 2);
        bad("1. 2%", 0);
        bad("1.2 3%", 4);
        bad("1 2/A", 2);
        bad("step(1 2:3=4)", 7);
        bad("step(12:3 4=5)", 10);
        bad("step(12:3=4 5)", 12);
    }

    private static void onlySign32IsABlank() {
        RateShapes x = new RateShapes();
        CHECK.due("31 is no sign", x.sign(31), false);
        CHECK.due("nor is a tab", x.sign(9), false);
        bad("!1%", 0);
        bad("1!%", 1);
        bad("1%_", 2);
    }

    // RATE: a PART, and behind it any times + or - and a PART.

    private static void rateIsPartsAndSigns() {
        bad("", 0);
        reads("1%", 1);
        reads("1%+1%", 3);
        reads("1%-1%", 3);
        reads("1%+1%-1%", 5);
        for (int parts = 1; parts <= 30; parts++) {
            reads(sum(parts), 2 * parts - 1);
        }
        bad("+1%", 0);
        bad("-1%", 0);
        bad("1%+", 3);
        bad("1%-", 3);
        bad("1%+-1%", 3);
        bad("1%--1%", 3);
        bad("1%1%", 2);
        bad("1%*1%", 2);
        bad("1%,1%", 2);
    }

    // PART: free; NUMBER %; NUMBER / UNIT; ( RATE ); min ( RATE , RATE ); max ..; step ( WHOLE : ROW ).

    private static void everyKindOfPart() {
        String[] parts = {"free", "5%", "5/A", "(free)", "min(free,5%)", "max(5/A,free)", "step(1:2=3)"};
        int[] nodes = {1, 1, 1, 1, 3, 3, 1};
        for (int i = 0; i < parts.length; i++) {
            reads(parts[i], nodes[i]);
            bad(parts[i] + ")", parts[i].length());
            bad(parts[i] + "%", parts[i].length());
            bad(parts[i] + ",", parts[i].length());
            for (int k = 0; k < parts.length; k++) {
                int both = nodes[i] + nodes[k] + 1;
                reads(parts[i] + "+" + parts[k], both);
                reads(parts[i] + "-" + parts[k], both);
                reads("min(" + parts[i] + "," + parts[k] + ")", both);
                reads("max(" + parts[i] + "," + parts[k] + ")", both);
                reads("(" + parts[i] + "-(" + parts[k] + "))", both);
            }
        }
        bad("min(1%)", 6);
        bad("min(1%,1%,1%)", 9);
        bad("max 1%,1%)", 4);
        bad("min[1%,1%]", 3);
        bad("(1%,1%)", 3);
        bad("step 1:1=1)", 5);
        bad("step(1,1=1)", 6);
        bad("step(1:1:1)", 8);
        bad("step(1:1=1=1)", 10);
        bad("step(1:1=1 2=2)", 11);
        bad("step(free:1=1)", 5);
        bad("5+1%", 1);
        bad("5)", 1);
    }

    /** What each beginning of a right text answers, the shortest first. */
    private static void everyCut() {
        cuts("min(1.5%,2/A)-free",
                -1, -1, -1, -4, -5, -6, -5, -8, -9, -10, -11, -12, -13, 3, -15, -15, -15, -15, 5);
        cuts("step(10:5=6,7=8)",
                -1, -1, -1, -1, -5, -6, -7, -8, -9, -10, -11, -12, -13, -14, -15, -16, 1);
        cuts("max((1%),(2%))",
                -1, -1, -1, -4, -5, -6, -7, -8, -9, -10, -11, -12, -13, -14, 3);
        cuts("10.25/H + 1%",
                -1, -2, -3, -1, -5, -6, -7, 1, 1, -10, -11, -12, 3);
    }

    private static void cuts(String text, int... want) {
        CHECK.due("cuts of " + text, want.length, text.length() + 1);
        for (int length = 0; length <= text.length(); length++) {
            reads(text.substring(0, length), want[length]);
        }
    }

    // ROWS are WHOLE = WHOLE with , between them (1 to 6, the first numbers rise).

    private static void rowsOneToSix() {
        bad("step(1:)", 7);
        for (int rows = 1; rows <= 6; rows++) {
            String text = "step(1:" + rows(rows) + ")";
            reads(text, 1);
            CHECK.due("rows of " + text, Check.withTree(text).node(0, 5), rows);
        }
        bad("step(1:" + rows(7) + ")", 7 + 6 * 4);
        bad("step(1:" + rows(8) + ")", 7 + 6 * 4);
        bad("step(1:" + rows(6) + ",)", 7 + 6 * 4);
        // The next step's rows are counted anew.
        reads("step(1:" + rows(6) + ")+step(1:" + rows(6) + ")", 3);
        bad("step(1:" + rows(6) + ")+step(1:" + rows(7) + ")", 39 + 24);
    }

    private static void firstNumbersRise() {
        reads("step(1:0=1,1=1)", 1);
        bad("step(1:0=1,0=1)", 11);
        reads("step(1:5=1,6=1)", 1);
        bad("step(1:5=1,5=1)", 11);
        bad("step(1:5=1,4=1)", 11);
        bad("step(1:5=1,0=1)", 11);
        bad("step(1:5=1,000005=1)", 11);
        reads("step(1:5=1,000006=1)", 1);
        reads("step(1:9=1,10=1)", 1);
        reads("step(1:999998=1,999999=1)", 1);
        bad("step(1:999999=1,999999=1)", 16);
        // Each with the one ahead of it, not with the first one alone.
        bad("step(1:1=1,3=1,2=1)", 15);
        bad("step(1:1=1,2=1,3=1,4=1,5=1,5=1)", 27);
        // The second numbers need not rise, nor need the rows be above the entry price.
        reads("step(9:1=5,2=5,3=4)", 1);
        // The next step's rows may begin below.
        reads("step(1:5=1)+step(1:1=1)", 3);
    }

    // NUMBER: 1 to 5 digits, and perhaps . and 1 to 3 digits.

    private static void numberDigits() {
        for (String end : new String[] {"%", "/A", ".5%", ".125/H"}) {
            bad(end, 0);
            reads("1" + end, 1);
            reads("12345" + end, 1);
            reads("00000" + end, 1);
            bad("123456" + end, 0);
            bad("000000" + end, 0);
            bad("1234567890123" + end, 0);
            bad("1%+ 123456" + end, 4);
        }
        CHECK.due("the least", Check.withTree("0%").node(0, 1), 0);
        CHECK.due("the most", Check.withTree("99999.999%").node(0, 1), 99999999);
        CHECK.due("all five digits", Check.withTree("12345/A").node(0, 1), 12345000);
    }

    private static void numberDigitsBehindThePoint() {
        for (String end : new String[] {"%", "/A"}) {
            bad("1." + end, 0);
            reads("1.0" + end, 1);
            reads("1.23" + end, 1);
            reads("1.234" + end, 1);
            bad("1.2340" + end, 0);
            bad("12345.6789" + end, 0);
            bad("1.2.3" + end, 3);
            bad("1%-1.2345" + end, 3);
        }
        CHECK.due("tenths", Check.withTree("1.2%").node(0, 1), 1200);
        CHECK.due("hundredths", Check.withTree("1.02%").node(0, 1), 1020);
        CHECK.due("thousandths", Check.withTree("1.002%").node(0, 1), 1002);
    }

    // WHOLE: 1 to 6 digits.

    private static void wholeDigits() {
        String[] ahead = {"step(", "step(1:", "step(1:1="};
        String[] behind = {":1=1)", "=1)", ")"};
        for (int i = 0; i < ahead.length; i++) {
            int place = ahead[i].length();
            bad(ahead[i] + behind[i], place);
            reads(ahead[i] + "0" + behind[i], 1);
            reads(ahead[i] + "123456" + behind[i], 1);
            reads(ahead[i] + "999999" + behind[i], 1);
            bad(ahead[i] + "1234567" + behind[i], place);
            bad(ahead[i] + "0000000" + behind[i], place);
            bad(ahead[i] + "  1234567" + behind[i], place + 2);
            bad(ahead[i] + "1.5" + behind[i], place + 1);
            bad(ahead[i] + "-1" + behind[i], place);
        }
    }

    // UNIT: a letter A to H.

    private static void unitLetters() {
        for (int c = 33; c <= 126; c++) {
            boolean isUnit = c >= 'A' && c <= 'H';
            String text = "1/" + (char) c;
            reads(text, isUnit ? 1 : -3);
            if (isUnit) {
                CHECK.due("unit of " + text, Check.withTree(text).node(0, 2), c - 'A');
            }
        }
        bad("1/", 2);
        bad("1/AA", 3);
    }

    // Words have small letters.

    private static void smallLetters() {
        bad("Free", 0);
        bad("FREE", 0);
        bad("freE", 0);
        bad("fReE", 0);
        bad("Min(1%,1%)", 0);
        bad("miN(1%,1%)", 0);
        bad("MAX(1%,1%)", 0);
        bad("Step(1:1=1)", 0);
        bad("1%-stEp(1:1=1)", 3);
    }

    // THE TREE has NODES (60 at most): as every node has two below it or none, 59 is the most of a whole
    // tree; the 60th may begin.

    private static void sixtyNodes() {
        reads(sum(30), 59);
        bad(sum(31), 90);
        reads("min(" + sum(29) + ",1%)", 59);
        bad("min(" + sum(30) + ",1%)", 94);
        reads("max(1%," + sum(29) + ")", 59);
        bad("max(1%," + sum(30) + ")", 7 + 87);
        reads("(" + sum(15) + ")-(" + sum(15) + ")", 59);
        bad("(" + sum(15) + ")-(" + sum(16) + ")", 48 + 45);
        CHECK.due("the last node", Check.withTree(sum(30)).node(58, 0), 1);
    }

    private static void sixtiethNodeIsTaken() {
        // 1 and 57 nodes, the sign is the 59th, and the part behind it the 60th.
        String ahead = "min(" + sum(29) + "+";
        for (String part : new String[] {"free", "1%", "1/A", "step(1:1=1)", "(1%)"}) {
            bad(ahead + part + ")", ahead.length() + part.length());
        }
        bad(ahead + "min(1%,1%)", ahead.length() + 4);
        bad(ahead + "max( 1%,1%)", ahead.length() + 5);
        // 59 nodes, and the sign is the 60th.
        bad(sum(30) + "+", 90);
        bad(sum(30) + "-", 90);
    }

    private static void sixtyFirstNodeIsToldAtItsFirstSign() {
        String full = sum(30) + "- ";
        for (String part : new String[] {"free", "1%", "12.5/A", "min(1%,1%)", "max(1%,1%)", "step(1:1=1)"}) {
            bad(full + part, 91);
            bad(full + "(" + part + ")", 92);
        }
        // Ahead of what is wrong behind its first sign.
        bad(full + "1", 91);
        bad(full + "1/I", 91);
        bad(full + "step(x", 91);
        bad("min(" + sum(30) + "+1%,1%)", 93);
        bad("min(" + sum(30) + " -1%,1%)", 94);
        bad("min(" + sum(30) + "+", 93);
        // What is wrong ahead of it comes first.
        bad("min(" + sum(30) + ")", 93);
        bad(sum(30) + ")+1%", 89);
    }

    // Nested 12 deep at most: each of (, min, max that is open counts one.

    private static final String[] OPENING = {"(", "min(", "max("};
    private static final String[] CLOSING = {")", ",0%)", ",0%)"};

    private static void twelveDeep() {
        for (int i = 0; i < OPENING.length; i++) {
            for (int deep = 1; deep <= 12; deep++) {
                String text = OPENING[i].repeat(deep) + "1%" + CLOSING[i].repeat(deep);
                reads(text, i == 0 ? 1 : 2 * deep + 1);
                CHECK.due("nested in " + text, Check.withTree(text).count(3), deep);
            }
            bad(OPENING[i].repeat(13) + "1%" + CLOSING[i].repeat(13), 12 * OPENING[i].length());
        }
        reads("min(0%,".repeat(12) + "0%" + ")".repeat(12), 25);
        bad("min(0%,".repeat(13) + "0%" + ")".repeat(13), 84);
    }

    private static void thirteenthDeepIsToldAtItsFirstSign() {
        for (int i = 0; i < OPENING.length; i++) {
            for (int k = 0; k < OPENING.length; k++) {
                String mixed = OPENING[i].repeat(11) + OPENING[k];
                for (String last : OPENING) {
                    bad(mixed + " " + last + "1%", mixed.length() + 1);
                }
                bad(mixed + "1%+" + OPENING[i], mixed.length() + 3);
            }
        }
        String full = "(".repeat(12);
        bad(full + "min", 12);
        bad(full + "max x", 12);
        bad(full + "(", 12);
        // step is none of those that count, and its bracket is its own.
        reads(full + "step(1:1=1)" + ")".repeat(12), 1);
        reads(full + "free-1/A" + ")".repeat(12), 3);
    }

    private static void onlyWhatIsOpenCounts() {
        String full = "(".repeat(12) + "1%" + ")".repeat(12);
        reads(full + "+" + full, 3);
        reads("(".repeat(11) + "(1%)+(1%)+min(1%,1%)-max(1%,1%)" + ")".repeat(11), 11);
        reads("min(1%,1%)+".repeat(13) + "1%", 53);
        reads("(1%)+".repeat(13) + "1%", 27);
        bad("(".repeat(11) + "(1%)+((1%))" + ")".repeat(11), 11 + 6);
        CHECK.due("nested side by side", Check.withTree("(1%)-(1%)+min((1%),1%)").count(3), 2);
        CHECK.due("nested: none", Check.withTree("1%-1%").count(3), 0);
    }

    // + and - go from the left; ( ) make no node.

    private static void fromTheLeft() {
        RateShapes x = Check.withTree("100% - 20% + 3%");
        x.price(1);
        CHECK.due("a - b + c: the top", Check.node(x, 0), "3 0 -1 1 4 0");
        CHECK.due("a - b + c: its left", Check.node(x, 1), "4 0 -1 2 3 0");
        CHECK.due("a - b + c", x.part(0), 830000);
        RateShapes y = Check.withTree("100% - (20% + 3%)");
        y.price(1);
        CHECK.due("a - (b + c)", y.part(0), 770000);
        RateShapes z = Check.withTree("100% - 20% - 3%");
        z.price(1);
        CHECK.due("a - b - c", z.part(0), 770000);
    }

    private static void bracketsMakeNoNode() {
        reads("(1%)", 1);
        reads("((1%)+(((2%))))", 3);
        CHECK.due("the node in it", Check.node(Check.withTree("(((7/C)))"), 0), "2 7000 2 -1 -1 0");
    }

    // .. the first sign of a word or number that is none or too long.

    private static void wordThatIsNone() {
        String[] none = {"f", "fre", "freea", "frees", "freez", "freefree", "m", "mi", "mix", "mins",
            "minmin", "ma", "maxi", "st", "ste", "steps", "a", "xyz", "z"};
        for (String word : none) {
            bad(word, 0);
            bad(word + "(1%,1%)", 0);
            bad("1%+ " + word, 4);
            bad("(" + word + ")", 1);
            bad("min(1%, " + word + ")", 8);
        }
        // A word that is one, and behind it what can't be there.
        bad("free free", 5);
        bad("freeA", 4);
        bad("free1", 4);
        bad("min1", 3);
        bad("max%", 3);
        bad("step=", 4);
    }

    private static void numberThatIsNone() {
        bad("1.", 0);
        bad("1.%", 0);
        bad("1./A", 0);
        bad("1%+12.", 3);
        bad("(12.x)", 1);
        bad(".", 0);
        bad(".5%", 0);
        bad("123456", 0);
        bad("1.2345", 0);
        bad("step(x:1=1)", 5);
        bad("step(1:x=1)", 7);
        bad("step(1:1=x)", 9);
        bad("step(1:1=1,x=1)", 11);
    }

    // .. the text's length if it ends too early.

    private static void endsTooEarly() {
        String[] open = {"", "1", "1.5", "1/", "1%+", "1%-", "(", "(1%", "min", "min(", "min(1%",
            "min(1%,", "min(1%,1%", "max", "step", "step(", "step(1", "step(1:", "step(1:1", "step(1:1=",
            "step(1:1=1", "step(1:1=1,", "((1%)"};
        for (String text : open) {
            bad(text, text.length());
            bad(text + "   ", text.length() + 3);
        }
    }

    // .. a row that does not rise, or is the seventh, at its first number, behind what is wrong within it.

    private static void rowFaultBehindFaultsWithin() {
        String[] ahead = {"step(1:5=1,", "step(1:" + rows(6) + ","};
        for (String text : ahead) {
            int row = text.length();
            bad(text + "5=1)", row);
            bad(text + "  5 = 1 )", row + 2);
            // Within the row: no first number, too long a one, no =, no second number, too long a one.
            bad(text, row);
            bad(text + "=1)", row);
            bad(text + "0000005=1)", row);
            bad(text + "5", row + 1);
            bad(text + "5)", row + 1);
            bad(text + "5:1)", row + 1);
            bad(text + "5=", row + 2);
            bad(text + "5=)", row + 2);
            bad(text + "5=x)", row + 2);
            bad(text + "5=1234567)", row + 2);
            bad(text + "5= 1234567)", row + 3);
            // Behind the row: the row is told.
            bad(text + "5=1", row);
            bad(text + "5=1.5)", row);
            bad(text + "5=1;", row);
            bad(text + "5=1,", row);
            bad(text + "5=1,x", row);
            bad(text + "5=1)x", row);
        }
        // Both at once is no other place, and the first such row is told.
        bad("step(1:" + rows(6) + ",6=0)", 31);
        bad("step(1:5=1,5=1,5=1)", 11);
        bad("step(1:5=1,5=1,x)", 11);
    }

    private static void leastPlaceOfSeveral() {
        bad("1/I+x", 2);
        bad("123456%+123456%", 0);
        bad("min(1%;x", 6);
        bad("(1%+x))", 4);
        bad("1%)+x", 2);
        bad("step(1:5=1,5=1)+x", 11);
        bad("x" + sum(31), 0);
    }
}
