import java.math.BigDecimal;
import java.math.BigInteger;
import java.util.ArrayList;
import java.util.List;
import java.util.regex.Matcher;
import java.util.regex.Pattern;

/**
 * The document read a second time, with objects for nodes, patterns for numbers and words, and big
 * numbers for money, so that a slip in the class is not likely to stand here, too.
 */
final class Oracle {
    private static final Pattern NUMBER = Pattern.compile("[0-9]+(\\.[0-9]*)?");
    private static final Pattern GOOD_NUMBER = Pattern.compile("[0-9]{1,5}(\\.[0-9]{1,3})?");
    private static final Pattern WHOLE = Pattern.compile("[0-9]*");
    private static final Pattern WORD = Pattern.compile("[a-z]*");
    private static final BigInteger MOST_AMOUNT = BigInteger.valueOf(100000000);

    static final class Bad extends Exception {
        private static final long serialVersionUID = 1;
        final int place;

        Bad(int place) {
            this.place = place;
        }
    }

    static final class Node {
        final int kind;
        BigDecimal number = BigDecimal.ZERO;
        int unit = -1;
        Node left;
        Node right;
        final List<int[]> rows = new ArrayList<>();
        int index;

        Node(int kind) {
            this.kind = kind;
        }
    }

    final List<Node> nodes = new ArrayList<>();
    int deepest;
    BigInteger price = BigInteger.ZERO;
    final BigInteger[] own = new BigInteger[8];
    final int[] target = {-1, -1, -1, -1, -1, -1, -1, -1};
    final int[] times = new int[8];

    private String text;
    private int place;
    private int made;

    int read(String source) {
        text = source;
        place = 0;
        made = 0;
        deepest = 0;
        nodes.clear();
        try {
            Node root = rate(0);
            blanks();
            if (place < text.length()) {
                throw new Bad(place);
            }
            number(root);
            return nodes.size();
        } catch (Bad bad) {
            deepest = 0;
            return -1 - bad.place;
        }
    }

    private void number(Node node) {
        node.index = nodes.size();
        nodes.add(node);
        if (node.left != null) {
            number(node.left);
            number(node.right);
        }
    }

    private Node make(int kind, int at) throws Bad {
        made++;
        if (made > 60) {
            throw new Bad(at);
        }
        return new Node(kind);
    }

    private Node rate(int deep) throws Bad {
        Node all = part(deep);
        while (true) {
            blanks();
            if (!text.startsWith("+", place) && !text.startsWith("-", place)) {
                return all;
            }
            Node node = make(text.charAt(place) == '+' ? 3 : 4, place);
            place++;
            node.left = all;
            node.right = part(deep);
            all = node;
        }
    }

    private Node part(int deep) throws Bad {
        blanks();
        int first = place;
        if (text.startsWith("(", place)) {
            open(deep, first);
            place++;
            Node node = rate(deep + 1);
            want(")");
            return node;
        }
        if (place < text.length() && Character.isDigit(text.charAt(place))) {
            return numberPart(first);
        }
        String word = take(WORD);
        switch (word) {
            case "free":
                return make(0, first);
            case "min":
            case "max":
                open(deep, first);
                Node node = make(word.equals("min") ? 5 : 6, first);
                want("(");
                node.left = rate(deep + 1);
                want(",");
                node.right = rate(deep + 1);
                want(")");
                return node;
            case "step":
                return steps(make(7, first));
            default:
                throw new Bad(first);
        }
    }

    private void open(int deep, int first) throws Bad {
        if (deep == 12) {
            throw new Bad(first);
        }
        deepest = Math.max(deepest, deep + 1);
    }

    private Node numberPart(int first) throws Bad {
        String digits = take(NUMBER);
        if (!GOOD_NUMBER.matcher(digits).matches()) {
            throw new Bad(first);
        }
        if (made == 60) {
            throw new Bad(first);
        }
        blanks();
        boolean share = text.startsWith("%", place);
        Node node = make(share ? 1 : 2, first);
        node.number = new BigDecimal(digits);
        if (share) {
            place++;
            return node;
        }
        want("/");
        blanks();
        int unit = place < text.length() ? "ABCDEFGH".indexOf(text.charAt(place)) : -1;
        if (unit < 0) {
            throw new Bad(place);
        }
        place++;
        node.unit = unit;
        return node;
    }

    private Node steps(Node node) throws Bad {
        want("(");
        node.number = BigDecimal.valueOf(whole());
        want(":");
        do {
            blanks();
            int first = place;
            int bound = whole();
            want("=");
            int cents = whole();
            int rows = node.rows.size();
            if (rows == 6 || rows > 0 && node.rows.get(rows - 1)[0] >= bound) {
                throw new Bad(first);
            }
            node.rows.add(new int[] {bound, cents});
            blanks();
        } while (skip(","));
        want(")");
        return node;
    }

    private int whole() throws Bad {
        blanks();
        int first = place;
        String digits = take(WHOLE);
        if (digits.isEmpty() || digits.length() > 6) {
            throw new Bad(first);
        }
        return Integer.parseInt(digits);
    }

    private String take(Pattern pattern) {
        Matcher matcher = pattern.matcher(text).region(place, text.length());
        if (!matcher.lookingAt()) {
            return "";
        }
        place = matcher.end();
        return matcher.group();
    }

    private void want(String sign) throws Bad {
        blanks();
        if (!skip(sign)) {
            throw new Bad(place);
        }
    }

    private boolean skip(String sign) {
        if (!text.startsWith(sign, place)) {
            return false;
        }
        place++;
        return true;
    }

    private void blanks() {
        while (text.startsWith(" ", place)) {
            place++;
        }
    }

    boolean convert(int unit, int to, int many) {
        int oldTarget = target[unit];
        int oldTimes = times[unit];
        target[unit] = to;
        times[unit] = many;
        if (many == 0 || !inRing(unit)) {
            return true;
        }
        target[unit] = oldTarget;
        times[unit] = oldTimes;
        return false;
    }

    private boolean inRing(int unit) {
        int here = unit;
        for (int i = 0; i < 9; i++) {
            here = times[here] == 0 ? here : target[here];
        }
        return times[here] != 0;
    }

    /** Null without one. */
    BigInteger amount(int unit) {
        if (own[unit] != null) {
            return own[unit];
        }
        BigInteger other = times[unit] == 0 ? null : amount(target[unit]);
        return other == null ? null : other.multiply(BigInteger.valueOf(times[unit]));
    }

    List<Integer> missing() {
        List<Integer> units = new ArrayList<>();
        for (int unit = 0; unit < 8; unit++) {
            for (Node node : nodes) {
                if (node.unit == unit && amount(unit) == null && !units.contains(unit)) {
                    units.add(unit);
                }
            }
        }
        return units;
    }

    /** The value in cents; null where an amount is lacking or too much. */
    BigDecimal cents(Node node) {
        switch (node.kind) {
            case 0:
                return BigDecimal.ZERO;
            case 1:
                return new BigDecimal(price).multiply(node.number).movePointLeft(2);
            case 2:
                BigInteger amount = amount(node.unit);
                return amount == null || amount.compareTo(MOST_AMOUNT) > 0 ? null
                        : node.number.multiply(new BigDecimal(amount)).movePointLeft(3);
            case 7:
                return BigDecimal.valueOf(stepCents(node));
            default:
                return centsOfBoth(node.kind, cents(node.left), cents(node.right));
        }
    }

    private static BigDecimal centsOfBoth(int kind, BigDecimal a, BigDecimal b) {
        if (a == null || b == null) {
            return null;
        }
        switch (kind) {
            case 3:
                return a.add(b);
            case 4:
                return a.subtract(b);
            case 5:
                return a.min(b);
            default:
                return a.max(b);
        }
    }

    private long stepCents(Node node) {
        if (price.signum() == 0) {
            return node.rows.get(node.rows.size() - 1)[1];
        }
        BigInteger q = node.number.toBigInteger().multiply(BigInteger.valueOf(100)).divide(price);
        for (int i = node.rows.size() - 1; i >= 0; i--) {
            if (BigInteger.valueOf(node.rows.get(i)[0]).compareTo(q) <= 0) {
                return node.rows.get(i)[1];
            }
        }
        return 0;
    }

    static String print(Node node) {
        switch (node.kind) {
            case 0:
                return "free";
            case 1:
                return plain(node.number) + "%";
            case 2:
                return plain(node.number) + "/" + "ABCDEFGH".charAt(node.unit);
            case 3:
            case 4:
                String right = print(node.right);
                boolean bracket = node.right.kind == 3 || node.right.kind == 4;
                return print(node.left) + (node.kind == 3 ? " + " : " - ")
                        + (bracket ? "(" + right + ")" : right);
            case 7:
                List<String> rows = new ArrayList<>();
                for (int[] row : node.rows) {
                    rows.add(row[0] + "=" + row[1]);
                }
                return "step(" + plain(node.number) + ": " + String.join(", ", rows) + ")";
            default:
                return (node.kind == 5 ? "min(" : "max(") + print(node.left) + ", "
                        + print(node.right) + ")";
        }
    }

    private static String plain(BigDecimal number) {
        return number.signum() == 0 ? "0" : number.stripTrailingZeros().toPlainString();
    }

    /** The six numbers of a node, in the order of what. */
    static String show(Node node) {
        int number = node.kind == 7 ? node.number.intValueExact()
                : node.number.movePointRight(3).intValueExact();
        return node.kind + " " + number + " " + node.unit + " "
                + (node.left == null ? -1 : node.left.index) + " "
                + (node.right == null ? -1 : node.right.index) + " " + node.rows.size();
    }
}
