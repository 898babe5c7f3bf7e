/** The boundary cases of part 3's fault 30; each method's comment is the sentence it looks at. */
public final class WidthEdgeTest {
    private static final int MOST = 64;
    private static final int[] WIDTHS = {1, 2, 3, 31, 32, 33, 62, 63, 64};
    private static final String ALWAYS = "always @ ( posedge clock ) ";

    public static void main(String[] args) {
        ranges();
        beginnings();
        bits();
        parts();
        partsThatAreSet();
        leaving();
        makingOne();
        anyTwo();
        sameToOne();
        sameToSame();
        shifts();
        conditions();
        indexes();
        sums();
        times();
        manyBraces();
        assigns();
        settings();
        links();
        caseValues();
        Bench.done("WidthEdgeTest");
    }

    private static String range(int width) {
        return "[ " + (width - 1) + " : 0 ] ";
    }

    /** An exp with a name v of this width. */
    private static void exp(int code, int width, String exp) {
        Bench.holds(code, "module a ( input " + range(width) + "v ) ; assert ( " + exp + " ) ; endmodule");
    }

    private static void exp(int code, String exp) {
        exp(code, 1, exp);
    }

    /** A number of this width. */
    private static String n(int width) {
        return width + "'d0";
    }

    /** It has this width and no other: == takes it together with that alone. */
    private static void isWide(int width, int nameWidth, String exp) {
        for (int other = Math.max(1, width - 1); other <= Math.min(MOST, width + 1); other++) {
            exp(other == width ? 0 : 30, nameWidth, "( " + exp + " ) `== " + n(other));
        }
    }

    private static void isWide(int width, String exp) {
        isWide(width, 1, exp);
    }

    /** "a range is [h : 0], h 0 .. 63, and its width h + 1, without a range 1; else at its [". */
    private static void ranges() {
        String[] declarations = {"( input %x ) ;", "( output reg %x ) ;", "( output %x ) ; assign x = $ ;", "( ) ; reg %x ;",
            "( ) ; wire %x ; assign x = $ ;"};
        for (String declaration : declarations) {
            for (int high : new int[] {0, 1, 2, 31, 32, 62, 63, 64, 65, 127, 128, 255, 256, 65534, 65535}) {
                for (int low : new int[] {0, 1, 2, 62, 63, 64, 65535}) {
                    boolean right = high <= 63 && low == 0;
                    String text = "module a " + declaration.replace("%", "`[ " + high + " : " + low + " ] ").replace("$", n(Math.min(high + 1, MOST)))
                        + " endmodule";
                    Bench.holds(right ? 0 : 30, text);
                    if (right) {
                        Bench.due("width in " + text, Bench.declared(Bench.right(text.replace("`", "")), 0, 0, 1), high + 1);
                    }
                }
            }
            CircuitText x = Bench.right("module a " + declaration.replace("%", "").replace("$", n(1)) + " endmodule");
            Bench.due("width without a range", Bench.declared(x, 0, 0, 1), 1);
        }
    }

    /** "A value that a register begins with has its width (at the SIZED)." */
    private static void beginnings() {
        for (int width = 1; width <= MOST; width++) {
            for (int other = Math.max(1, width - 1); other <= Math.min(MOST, width + 1); other++) {
                int code = width == other ? 0 : 30;
                Bench.holds(code, "module a ( ) ; reg " + range(width) + "r = `" + n(other) + " ; endmodule");
                Bench.holds(code, "module a ( output reg " + range(width) + "r = `" + n(other) + " ) ; endmodule");
            }
        }
        Bench.holds(0, "module a ( output reg q = 1'd1 ) ; reg r = 1'd1 ; endmodule");
        Bench.holds(30, "module a ( ) ; reg r = `2'd1 ; endmodule");
        Bench.holds(30, "module a ( output reg r = `2'd1 ) ; endmodule");
    }

    /** "A part [k] is of width 1, .. and lies within its name's width (at its [)". */
    private static void bits() {
        for (int width : WIDTHS) {
            for (int bit : new int[] {0, 1, width - 1, width, width + 1, 63, 64, 65, 65535}) {
                exp(bit < width ? 0 : 30, width, "v `[ " + bit + " ]");
                if (bit < width) {
                    isWide(1, width, "v [ " + bit + " ]");
                }
            }
        }
        exp(0, "v [ 0 ]");
        exp(30, "v `[ 1 ]");
        Bench.holds(30, "module a ( input v ) ; assert ( v `[ 1 ] ) ; endmodule");
    }

    /** "[h : l] of width h - l + 1, and lies within its name's width (at its [)". */
    private static void parts() {
        for (int width : new int[] {1, 2, 5, 63, 64}) {
            int[] ends = {0, 1, 2, width - 2, width - 1, width, width + 1, 64, 65535};
            for (int high : ends) {
                for (int low : ends) {
                    if (high >= 0 && low >= 0) {
                        boolean right = low <= high && high < width;
                        exp(right ? 0 : 30, width, "v `[ " + high + " : " + low + " ]");
                        if (right) {
                            isWide(high - low + 1, width, "v [ " + high + " : " + low + " ]");
                        }
                    }
                }
            }
        }
    }

    /** The same of a part before <=. */
    private static void partsThatAreSet() {
        for (int width : new int[] {1, 2, 5, 64}) {
            String front = "module a ( ) ; reg " + range(width) + "r ; " + ALWAYS;
            for (int high : new int[] {0, 1, width - 1, width, width + 1, 65535}) {
                Bench.holds(high < width ? 0 : 30, front + "r `[ " + high + " ] <= 1'd0 ; endmodule");
                for (int low : new int[] {0, 1, high - 1, high, high + 1}) {
                    if (low >= 0 && low <= 65535) {
                        boolean right = low <= high && high < width;
                        String value = n(right ? high - low + 1 : 1);
                        Bench.holds(right ? 0 : 30, front + "r `[ " + high + " : " + low + " ] <= " + value + " ; endmodule");
                    }
                }
            }
        }
    }

    /** "~ and - leave the width". */
    private static void leaving() {
        for (int width : WIDTHS) {
            for (String one : new String[] {"~", "-", "~ -", "- ~", "~ ~ ~", "- - -"}) {
                isWide(width, one + " " + n(width));
            }
        }
    }

    /** "! & | ^ before make 1". */
    private static void makingOne() {
        for (int width : WIDTHS) {
            for (String one : new String[] {"!", "&", "|", "^", "~ !", "- &", "! ~", "^ -", "& | ^ !"}) {
                isWide(1, one + " " + n(width));
            }
        }
    }

    /** "&& || make 1 of any two". */
    private static void anyTwo() {
        for (int first : WIDTHS) {
            for (int second : WIDTHS) {
                isWide(1, n(first) + " && " + n(second));
                isWide(1, n(first) + " || " + n(second));
            }
        }
    }

    /** "== != < <= > >= make 1 of two that are the same"; "At the operator". */
    private static void sameToOne() {
        for (String operator : new String[] {"==", "!=", "<", "<=", ">", ">="}) {
            for (int first : WIDTHS) {
                for (int second : WIDTHS) {
                    exp(first == second ? 0 : 30, n(first) + " `" + operator + " " + n(second));
                }
                isWide(1, n(first) + " " + operator + " " + n(first));
            }
        }
    }

    /** "+ - * & | ^ of two that are the same make that". */
    private static void sameToSame() {
        for (String operator : new String[] {"+", "-", "*", "&", "|", "^"}) {
            for (int first : WIDTHS) {
                for (int second : WIDTHS) {
                    exp(first == second ? 0 : 30, n(first) + " `" + operator + " " + n(second));
                }
                isWide(first, n(first) + " " + operator + " " + n(first));
            }
        }
    }

    /** "<< >> of any two the first one". */
    private static void shifts() {
        for (int first : WIDTHS) {
            for (int second : WIDTHS) {
                isWide(first, n(first) + " << " + n(second));
                isWide(first, n(first) + " >> " + n(second));
            }
        }
    }

    /** "? of any condition and two that are the same that"; "(? and not :)". */
    private static void conditions() {
        for (int condition : WIDTHS) {
            for (int first : WIDTHS) {
                for (int second : WIDTHS) {
                    exp(first == second ? 0 : 30, n(condition) + " `? " + n(first) + " : " + n(second));
                }
                isWide(first, n(condition) + " ? " + n(first) + " : " + n(first));
            }
        }
    }

    /** "NAME [ exp ] makes 1 of any". */
    private static void indexes() {
        for (int width : WIDTHS) {
            for (int index : WIDTHS) {
                isWide(1, width, "v [ " + n(index) + " ]");
            }
        }
    }

    /** "{ , } the sum"; "at the { that begins it .. when the width would be 0 or above 64". */
    private static void sums() {
        for (int first = 1; first <= MOST; first++) {
            isWide(first, "{ " + n(first) + " }");
            for (int second : new int[] {1, 2, 62 - first, 63 - first, 64 - first, 65 - first, 66 - first, 63, 64}) {
                if (second >= 1 && second <= MOST) {
                    int sum = first + second;
                    exp(sum <= MOST ? 0 : 30, "`{ " + n(first) + " , " + n(second) + " }");
                    if (sum <= MOST) {
                        isWide(sum, "{ " + n(first) + " , " + n(second) + " }");
                    }
                }
            }
        }
        exp(0, "{ 21'd0 , 21'd0 , 22'd0 }");
        exp(30, "`{ 21'd0 , 22'd0 , 22'd0 }");
        exp(0, "{ v" + " , v".repeat(63) + " }");
        exp(30, "`{ v" + " , v".repeat(64) + " }");
        // no sum is so great that it comes round to a width again
        exp(30, "`{ 64'd0" + " , 64'd0".repeat(700) + " }");
    }

    /** "{ n { } } n times that, n not 0"; "(of { n { } } the outer one)". */
    private static void times() {
        for (int width = 1; width <= MOST; width++) {
            for (int n : new int[] {0, 1, 2, MOST / width - 1, MOST / width, MOST / width + 1, 63, 64, 65, 65534, 65535}) {
                if (n >= 0) {
                    boolean right = n >= 1 && n * width <= MOST;
                    exp(right ? 0 : 30, "`{ " + n + " { " + n(width) + " } }");
                    if (right) {
                        isWide(n * width, "{ " + n + " { " + n(width) + " } }");
                    }
                }
            }
        }
    }

    /** Each of several braces by itself, the inner ones first. */
    private static void manyBraces() {
        exp(30, "{ `{ 64'd0 , v } , v }");
        exp(30, "`{ { 63'd0 , v } , v }");
        exp(0, "{ { 62'd0 , v } , v }");
        exp(30, "{ 2 { `{ 0 { v } } } }");
        exp(30, "`{ 2 { { 33 { v } } } }");
        exp(0, "{ 2 { { 32 { v } } } }");
        exp(30, "{ v , `{ 65 { v } } }");
        exp(30, "`{ { 64 { v } } , v }");
        exp(30, "`{ 2 { { 32'd0 , v } } }");
    }

    /** "Before .. = of assign: at that sign." */
    private static void assigns() {
        for (int width : WIDTHS) {
            for (int other : WIDTHS) {
                int code = width == other ? 0 : 30;
                Bench.holds(code, "module a ( output " + range(width) + "o ) ; assign o `= " + n(other) + " ; endmodule");
                Bench.holds(code, "module a ( ) ; wire " + range(width) + "w ; assign w `= " + n(other) + " ; endmodule");
            }
        }
    }

    /** "Before <= ..: at that sign", of a register and of its parts. */
    private static void settings() {
        for (int width : WIDTHS) {
            for (int other : WIDTHS) {
                int code = width == other ? 0 : 30;
                Bench.holds(code, "module a ( ) ; reg " + range(width) + "r ; " + ALWAYS + "r `<= " + n(other) + " ; endmodule");
                Bench.holds(code, "module a ( ) ; reg " + range(MOST) + "r ; " + ALWAYS + "r " + range(width) + " `<= " + n(other) + " ; endmodule");
            }
            Bench.holds(width == 1 ? 0 : 30, "module a ( ) ; reg " + range(MOST) + "r ; " + ALWAYS + "r [ 63 ] `<= " + n(width) + " ; endmodule");
        }
    }

    /** "A link: at its .": of inputs and of outputs. */
    private static void links() {
        for (int width : WIDTHS) {
            for (int other : WIDTHS) {
                int code = width == other ? 0 : 30;
                Bench.holds(code, "module m ( input " + range(width) + "p ) ; endmodule module a ( input " + range(other)
                    + "x ) ; m k ( `. p ( x ) ) ; endmodule");
                Bench.holds(code, "module m ( output reg " + range(width) + "p ) ; endmodule module a ( ) ; wire " + range(other)
                    + "x ; m k ( `. p ( x ) ) ; endmodule");
                Bench.holds(code, "module m ( output " + range(width) + "p ) ; assign p = " + n(width) + " ; endmodule module a ( output "
                    + range(other) + "x ) ; m k ( `. p ( x ) ) ; endmodule");
            }
        }
    }

    /** "a case's SIZED, of another width than its exp: at that". */
    private static void caseValues() {
        for (int width : WIDTHS) {
            for (int other : WIDTHS) {
                int code = width == other ? 0 : 30;
                String front = "module a ( ) ; " + ALWAYS + "case ( " + n(width) + " ) ";
                Bench.holds(code, front + "`" + n(other) + " : begin end endcase endmodule");
                Bench.holds(code, front + n(width) + " , `" + n(other) + " : begin end endcase endmodule");
                Bench.holds(code, front + n(width) + " : begin end `" + n(other) + " : begin end default : begin end endcase endmodule");
            }
        }
    }
}
