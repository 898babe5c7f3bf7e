/** How operators bind: a text without parentheses means what the same text with the due ones means. */
public final class RankTest {
    private static final String[][] RANKS = {
        {"||"}, {"&&"}, {"|"}, {"^"}, {"&"}, {"==", "!="}, {"<", "<=", ">", ">="}, {"<<", ">>"}, {"+", "-"}, {"*"}};
    private static final int[] WIDTHS = {1, 2, 5};
    private static final String[] UNARY = {"~", "!", "-", "&", "|", "^"};

    private static CircuitText reader;
    private static int calls;

    public static void main(String[] args) {
        for (int first = 0; first < RANKS.length; first++) {
            for (int second = 0; second < RANKS.length; second++) {
                for (String one : RANKS[first]) {
                    for (String two : RANKS[second]) {
                        pair(one, two, first >= second);
                    }
                }
            }
        }
        for (String[] rank : RANKS) {
            for (String operator : rank) {
                unary(operator);
                conditional(operator);
            }
        }
        Bench.done("RankTest");
    }

    /** The first operator comes first if it binds as much as the second one, or more. */
    private static void pair(String one, String two, boolean left) {
        for (int widths = 0; widths < 27; widths++) {
            String a = number(widths);
            String b = number(widths / 3);
            String c = number(widths / 9);
            String due = left ? "(" + a + one + b + ")" + two + c : a + one + "(" + b + two + c + ")";
            same(a + one + b + two + c, due);
        }
    }

    private static void unary(String operator) {
        for (String unary : UNARY) {
            for (int widths = 0; widths < 9; widths++) {
                String a = number(widths);
                String b = number(widths / 3);
                same(unary + a + operator + b, "(" + unary + a + ")" + operator + b);
                same(a + operator + " " + unary + b, a + operator + "(" + unary + b + ")");
            }
        }
    }

    private static void conditional(String operator) {
        for (int widths = 0; widths < 27; widths++) {
            String a = number(widths);
            String b = number(widths / 3);
            String c = number(widths / 9);
            same(a + operator + b + "?" + c + ":" + c, "(" + a + operator + b + ")?" + c + ":" + c);
            same(a + "?" + b + ":" + b + operator + c, a + "?" + b + ":(" + b + operator + c + ")");
            same(a + "?" + b + operator + c + ":" + b, a + "?(" + b + operator + c + "):" + b);
            same(a + "?" + b + ":" + c + "?" + b + ":" + b, a + "?" + b + ":(" + c + "?" + b + ":" + b + ")");
        }
    }

    private static String number(int which) {
        return WIDTHS[which % 3] + "'d1 ";
    }

    private static void same(String exp, String due) {
        Bench.due("fault and cost of " + exp + " as of " + due, told(exp), told(due));
    }

    /** Its cost, or a number below 0 that tells its fault and where it is. An assert asks for the width, so the cost tells that, too. */
    private static int told(String exp) {
        if (reader == null || calls > 400) {
            reader = new CircuitText();
            calls = 0;
        }
        calls += 12;
        String text = "module a();assert(" + exp + ");endmodule";
        Bench.put(reader, text);
        int place = reader.read();
        return place == CircuitText.NONE ? reader.module(0, 6) : -1000 * reader.fault() - before(text, place);
    }

    /** How many bytes stand before a place, but for parentheses and blanks, in which alone two texts may differ. */
    private static int before(String text, int place) {
        int count = 0;
        for (int i = 0; i < place; i++) {
            count += "() ".indexOf(text.charAt(i)) < 0 ? 1 : 0;
        }
        return count;
    }
}
