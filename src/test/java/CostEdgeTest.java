/** The boundary cases of part 4, COST; each method's comment is the sentence it looks at. */
public final class CostEdgeTest {
    private static final int[] WIDTHS = {1, 2, 4, 31, 32, 33, 63, 64};
    private static final int TOLD_MOST = 1501;
    private static final String ALWAYS = "always @ ( posedge clock ) ";

    public static void main(String[] args) {
        examples();
        nothing();
        widestOfTwo();
        shifts();
        squares();
        unary();
        conditions();
        indexes();
        everyExp();
        once();
        settings();
        asserts();
        ifs();
        caseValues();
        partsAndBraces();
        aboveMost();
        farAboveMost();
        eachModule();
        Bench.done("CostEdgeTest");
    }

    private static void cost(int cost, String text) {
        CircuitText x = Bench.right(text);
        Bench.due("cost of " + text, Bench.module(x, x.count() - 1, 6), Math.min(cost, TOLD_MOST));
    }

    private static String range(int width) {
        return "[ " + (width - 1) + " : 0 ] ";
    }

    /** What the exp costs; its width comes to it, because an assert asks for that. */
    private static void exp(int cost, int width, String exp) {
        cost(cost + width, "module a ( input [ 3 : 0 ] a , input [ 3 : 0 ] b , input c ) ; assert ( " + exp + " ) ; endmodule");
    }

    private static String n(int width) {
        return width + "'d0";
    }

    /** "(With a and b of 4 bits and c of 1: ~ a + b costs 8, c ? a : b 4, a << c 13, a * b 16, a [ c ] 4, ! a && c 5.)" */
    private static void examples() {
        exp(8, 4, "~ a + b");
        exp(4, 4, "c ? a : b");
        exp(13, 4, "a << c");
        exp(16, 4, "a * b");
        exp(4, 1, "a [ c ]");
        exp(5, 1, "! a && c");
    }

    /** A module without any of these costs 0. */
    private static void nothing() {
        cost(0, "module a ( ) ; endmodule");
        cost(0, "module a ( input [ 63 : 0 ] x , output reg [ 63 : 0 ] y = 64'd1 ) ; wire [ 63 : 0 ] w ; assign w = x ; reg r ; endmodule");
        cost(0, "module a ( ) ; " + ALWAYS + "begin end endmodule");
        exp(0, 4, "a");
        exp(0, 64, "64'd0");
        exp(0, 4, "( ( ( a ) ) )");
    }

    /** "for each operator in an exp .. the width of its widest operand". */
    private static void widestOfTwo() {
        for (int first : WIDTHS) {
            for (int second : WIDTHS) {
                exp(Math.max(first, second), 1, n(first) + " && " + n(second));
                exp(Math.max(first, second), 1, n(first) + " || " + n(second));
            }
            for (String operator : new String[] {"==", "!=", "<", "<=", ">", ">="}) {
                exp(first, 1, n(first) + " " + operator + " " + n(first));
            }
            for (String operator : new String[] {"+", "-", "&", "|", "^"}) {
                exp(first, first, n(first) + " " + operator + " " + n(first));
                exp(3 * first, first, n(first) + (" " + operator + " " + n(first)).repeat(3));
            }
        }
    }

    /** "but for << >> three times that of the first and once that of the second". */
    private static void shifts() {
        for (int first : WIDTHS) {
            for (int second : WIDTHS) {
                exp(3 * first + second, first, n(first) + " << " + n(second));
                exp(3 * first + second, first, n(first) + " >> " + n(second));
            }
        }
    }

    /** "for * its square". */
    private static void squares() {
        for (int width = 1; width <= 38; width++) {
            exp(width * width, width, n(width) + " * " + n(width));
        }
        exp(TOLD_MOST, 39, "39'd0 * 39'd0");
        exp(TOLD_MOST, 64, "64'd0 * 64'd0");
        exp(2 * 27 * 27, 27, "27'd0 * 27'd0 * 27'd0");
    }

    /** "unary ones .. too": each by the width of its own operand. */
    private static void unary() {
        for (int width : WIDTHS) {
            for (String leaves : new String[] {"~", "-"}) {
                exp(width, width, leaves + " " + n(width));
                exp(2 * width, width, leaves + " " + leaves + " " + n(width));
                for (String makes : new String[] {"!", "&", "|", "^"}) {
                    exp(width, 1, makes + " " + n(width));
                    exp(1 + width, 1, makes + " " + makes + " " + n(width));
                    exp(2 * width, 1, makes + " " + leaves + " " + n(width));
                    exp(1 + width, 1, leaves + " " + makes + " " + n(width));
                    exp(2 + 2 * width, 1, leaves + " " + makes + " " + makes + " " + leaves + " " + n(width));
                    exp(2 + 3 * width, 1, makes + " " + leaves + " " + makes + " " + leaves + " " + leaves + " " + n(width));
                }
            }
        }
        exp(500, 1, "~ ".repeat(500) + "c");
        exp(4 + 99, 1, "! ".repeat(100) + "a");
    }

    /** "(a condition .. and what is asked of it are operands, too)". */
    private static void conditions() {
        for (int condition : WIDTHS) {
            for (int width : WIDTHS) {
                exp(Math.max(condition, width), width, n(condition) + " ? " + n(width) + " : " + n(width));
            }
        }
        exp(4 + 4, 4, "c ? a : c ? b : a");
        exp(4 + 4, 4, "c ? c ? a : b : a");
        exp(1 + 4 + 4 + 4, 4, "c && c ? a + b : a - b");
    }

    /** "an index and what is asked of it are operands, too". */
    private static void indexes() {
        for (int width : WIDTHS) {
            for (int index : WIDTHS) {
                cost(Math.max(width, index) + 1, "module a ( input " + range(width) + "v ) ; assert ( v [ " + n(index) + " ] ) ; endmodule");
            }
        }
        exp(4 + 4, 1, "a [ a + b ]");
        exp(4 + 4, 1, "a [ b [ c ] ]");
    }

    private static final String M = "module m ( input [ 3 : 0 ] p , output reg q ) ; assert ( p * p ) ; endmodule ";

    /** "(of links, case, if, assert, too ..)", and of assigns and <=. */
    private static void everyExp() {
        String front = M + "module a ( input [ 3 : 0 ] x , output [ 3 : 0 ] y ) ; reg [ 3 : 0 ] r ; wire w ; ";
        String drive = " assign w = x [ 0 ] ; assign y = x ; endmodule";
        cost(0, front + drive);
        cost(4, front + "assign y = x + x ; assign w = x [ 0 ] ; endmodule");
        cost(4 + 4, front + ALWAYS + "r <= x + x ;" + drive);
        cost(4 + 4, front + ALWAYS + "if ( x + x ) begin end" + drive);
        cost(4, front + ALWAYS + "case ( x + x ) endcase" + drive);
        cost(4 + 4, front + ALWAYS + "case ( x + x ) 4'd0 : begin end endcase" + drive);
        cost(4 + 4, front + "assert ( x + x ) ;" + drive);
        // what a module costs that is instanced is none of it
        cost(4, front + "m k ( . p ( x + x ) , . q ( w ) ) ; assign y = x ; endmodule");
        cost(0, front + "m k ( . p ( x ) , . q ( w ) ) ; assign y = x ; endmodule");
    }

    /** "as it is told (..; once; ..)": however often it is meant. */
    private static void once() {
        exp(1, 64, "{ 64 { ~ c } }");
        exp(4, 16, "{ 4 { a + b } }");
        exp(4, 8, "{ 2 { { a + b } } }");
        exp(4 + 4, 8, "{ a + b , a + b }");
    }

    /** "for each <= the width that it sets". */
    private static void settings() {
        for (int width : WIDTHS) {
            String front = "module a ( output reg " + range(width) + "r ) ; reg " + range(64) + "s ; " + ALWAYS;
            cost(width, front + "r <= " + n(width) + " ; endmodule");
            cost(2 * width, front + "begin r <= r ; r <= r ; end endmodule");
            cost(1, front + "r [ " + (width - 1) + " ] <= 1'd0 ; endmodule");
            cost(width, front + "s " + range(width) + "<= r ; endmodule");
            // the <= of an exp is another
            cost(1 + width, front + "r [ 0 ] <= r <= r ; endmodule");
        }
    }

    /** "for each assert .. the width of its exp". */
    private static void asserts() {
        for (int width : WIDTHS) {
            cost(width, "module a ( ) ; assert ( " + n(width) + " ) ; endmodule");
            cost(3 * width, "module a ( ) ; " + ("assert ( " + n(width) + " ) ; ").repeat(3) + "endmodule");
            cost(width + 1, "module a ( ) ; assert ( ! " + n(width) + " ) ; endmodule");
        }
    }

    /** "for each .. if .. the width of its exp": once, with an else or without. */
    private static void ifs() {
        for (int width : WIDTHS) {
            String choice = "if ( " + n(width) + " ) begin end ";
            cost(width, "module a ( ) ; " + ALWAYS + choice + "endmodule");
            cost(width, "module a ( ) ; " + ALWAYS + choice + "else begin end endmodule");
            cost(2 * width, "module a ( ) ; " + ALWAYS + choice + "else " + choice + "endmodule");
            cost(width + 1, "module a ( ) ; " + ALWAYS + "if ( ! " + n(width) + " ) begin end endmodule");
        }
    }

    /** "and for each SIZED of a case, the width of its exp": none for default. */
    private static void caseValues() {
        for (int width : WIDTHS) {
            String front = "module a ( ) ; " + ALWAYS + "case ( " + n(width) + " ) ";
            String value = n(width);
            cost(0, front + "endcase endmodule");
            cost(0, front + "default : begin end endcase endmodule");
            cost(width, front + value + " : begin end endcase endmodule");
            cost(2 * width, front + value + " , " + value + " : begin end endcase endmodule");
            cost(3 * width, front + value + " , " + value + " : begin end " + value + " : begin end default : begin end endcase endmodule");
        }
    }

    /** "parts and braces cost nothing". */
    private static void partsAndBraces() {
        exp(0, 1, "a [ 3 ]");
        exp(0, 2, "a [ 2 : 1 ]");
        exp(0, 4, "a [ 3 : 0 ]");
        exp(0, 8, "{ a , b }");
        exp(0, 64, "{ 16 { a } }");
        exp(0, 4, "{ { a } }");
        exp(2, 2, "~ a [ 2 : 1 ]");
        exp(8, 8, "~ { a , b }");
    }

    /** A module that costs so much, by its asserts. */
    private static String costing(int cost) {
        StringBuilder text = new StringBuilder("module a ( ) ; ");
        for (int left = cost; left > 0; left -= 64) {
            text.append("assert ( ").append(n(Math.min(left, 64))).append(" ) ; ");
        }
        return text + "endmodule";
    }

    /** "What is above 1500 is told as 1501." */
    private static void aboveMost() {
        for (int cost = 1490; cost <= 1510; cost++) {
            Bench.due("cost " + cost, Bench.module(Bench.right(costing(cost)), 0, 6), cost <= 1500 ? cost : 1501);
        }
        for (int cost : new int[] {1564, 1565, 1600, 3000, 3001, 3002, 4096, 10000}) {
            Bench.due("cost " + cost, Bench.module(Bench.right(costing(cost)), 0, 6), 1501);
        }
        // in one step from below
        for (int first = 1499; first <= 1501; first++) {
            String text = costing(first - 1369 - 37);
            cost(first, text.replace("endmodule", "assert ( 37'd0 * 37'd0 ) ; endmodule"));
        }
    }

    /** The same, as often as a text can tell it: it comes round to no smaller number. */
    private static void farAboveMost() {
        cost(TOLD_MOST, "module a ( ) ; assert ( 64'd0" + " * 64'd0".repeat(1200) + " ) ; endmodule");
        cost(TOLD_MOST, "module a ( ) ; assert ( " + "~".repeat(10000) + "64'd0 ) ; endmodule");
        cost(TOLD_MOST, "module a ( ) ; assert ( " + "!".repeat(10000) + "64'd0 ) ; endmodule");
        cost(TOLD_MOST, "module a ( ) ; assert ( 64'd0" + " << 64'd0".repeat(1000) + " ) ; endmodule");
    }

    /** Each module has its own cost, one above the limit, too. */
    private static void eachModule() {
        CircuitText x = Bench.right(costing(1500) + " " + costing(1502).replace("module a", "module b") + " "
            + costing(1).replace("module a", "module c") + " module d ( ) ; endmodule");
        Bench.due("cost of a", Bench.module(x, 0, 6), 1500);
        Bench.due("cost of b", Bench.module(x, 1, 6), 1501);
        Bench.due("cost of c", Bench.module(x, 2, 6), 1);
        Bench.due("cost of d", Bench.module(x, 3, 6), 0);
    }
}
