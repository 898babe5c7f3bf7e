/** The boundary cases of part 2's FAULT 3, at 60 that are open and at 61; each method's comment is the sentence it looks at. */
public final class DepthEdgeTest {
    private static final int MOST = 60;
    private static final String ASSERT = "module a ( input x ) ; assert ( ";
    private static final String TAIL = " ) ; endmodule";

    /** What opens within an exp: its text in front, and behind. All have the width 1, and one that opens but for {1{. */
    private static final String[][] EXPS = {{"`(", ")"}, {"x`[", "]"}, {"`{", "}"}, {"x`?", ":x"}, {"x`?x:", ""}};
    /** What opens in statements and stays open in the statement within. */
    private static final String[][] STATEMENTS = {{"`begin ", " end"}, {"`if ( x ) ", ""}, {"`if ( x ) r <= x ; else ", ""},
        {"`case ( x ) 1'd0 : ", " endcase"}, {"`case ( x ) 1'd0 : begin end 1'd1 , 1'd1 : ", " endcase"},
        {"`case ( x ) default : ", " endcase"}};
    /** What opens one more within a statement. */
    private static final String[] INNER = {"`begin end", "r `[ 0 ] <= x ;", "r <= `( x ) ;", "r <= x `[ 0 ] ;", "r <= x `[ x ] ;",
        "r <= `{ x } ;", "r <= x `? x : x ;"};

    public static void main(String[] args) {
        expWithinExp();
        countedBraces();
        closedExps();
        questionMarks();
        statementWithinStatement();
        parenthesesOfStatements();
        closedStatements();
        ifWithItsElse();
        elseOfTheLatestIf();
        everyParenthesis();
        nothingElseCounts();
        Bench.done("DepthEdgeTest");
    }

    private static String plain(String marked) {
        return marked.replace("`", "");
    }

    /** An exp within so many that are open, all of one kind. */
    private static String nested(String[] kind, int times, String inner) {
        return plain(kind[0]).repeat(times) + inner + kind[1].repeat(times);
    }

    /** "at a ( [ { ? .. with which more than 60 of these are open": each of them, within each of them. */
    private static void expWithinExp() {
        for (String[] outer : EXPS) {
            for (String[] inner : EXPS) {
                // the ( of assert is open, too
                for (int open = MOST - 1; open <= MOST + 1; open++) {
                    String exp = inner[0] + "x" + inner[1];
                    Bench.holds(open <= MOST ? 0 : 3, ASSERT + nested(outer, open - 2, exp) + TAIL);
                }
            }
        }
    }

    /** Of { n { } } both braces count. */
    private static void countedBraces() {
        for (String[] outer : EXPS) {
            Bench.holds(0, ASSERT + nested(outer, MOST - 3, "{1{x}}") + TAIL);
            Bench.holds(3, ASSERT + nested(outer, MOST - 2, "{1`{x}}") + TAIL);
            Bench.holds(3, ASSERT + nested(outer, MOST - 1, "`{1{x}}") + TAIL);
            Bench.holds(0, ASSERT + nested(new String[] {"{1{", "}}"}, 29, outer[0] + "x" + outer[1]) + TAIL);
            Bench.holds(3, ASSERT + nested(new String[] {"{1{", "}}"}, 29, "(" + outer[0] + "x" + outer[1] + ")") + TAIL);
        }
    }

    /** "( [ { to their closing ones": behind these there is room again, and no more than there was. */
    private static void closedExps() {
        for (String[] first : EXPS) {
            String one = plain(first[0]) + "x" + first[1] + ",";
            for (String[] second : EXPS) {
                String again = plain(second[0]) + "x" + second[1];
                Bench.holds(0, ASSERT + nested(EXPS[0], MOST - 3, "{" + one + one.repeat(60) + again + "}") + TAIL);
                for (String[] third : EXPS) {
                    String tooMany = plain(second[0]) + third[0] + "x" + third[1] + second[1];
                    Bench.holds(3, ASSERT + nested(EXPS[0], MOST - 3, "{" + one + tooMany + "}") + TAIL);
                }
            }
        }
    }

    /** Within so many that are open. */
    private static void exp(int code, int open, String exp) {
        Bench.holds(code, ASSERT + nested(EXPS[0], open - 1, exp) + TAIL);
    }

    /** "? to the end of its exp": open in both of its exps, and no longer. */
    private static void questionMarks() {
        for (String inner : new String[] {"x?%:x", "x?x:%", "x?x:x+%", "x?x+%:x"}) {
            exp(0, 58, inner.replace("%", "(x)"));
            exp(3, 58, inner.replace("%", "(`(x))"));
            exp(3, 59, inner.replace("%", "`(x)"));
        }
        // its condition comes before it
        exp(0, 59, "(x)?x:x");
        exp(0, 59, "x[0]?x:x");
        exp(0, 58, "((x))?(x):x");
        // its exp ends with the parenthesis, bracket or comma behind it, or the : of another
        exp(0, 58, "(x?x:x)+((x))");
        exp(3, 58, "(x?x:x)+((`(x)))");
        exp(0, 58, "x[x?x:x]+((x))");
        exp(3, 58, "x[x?x:x]+((`(x)))");
        exp(0, 57, "{x?x:x,((x))}");
        exp(3, 57, "{x?x:x,((`(x)))}");
        exp(0, 57, "x?x?x:x:((x))");
        exp(3, 57, "x?x?x:x:((`(x)))");
        // the exp of the first ends with that of the second
        exp(0, 57, "x?x:x?x:(x)");
        exp(3, 57, "x?x:x?x:(`(x))");
        Bench.holds(0, "module a ( input x ) ; " + "assert ( x ? x : x ) ; ".repeat(70) + "endmodule");
        Bench.holds(0, "module a ( input x ) ; " + ("assert ( " + "x?x:".repeat(59) + "x ) ; ").repeat(2) + "endmodule");
    }

    private static void always(int code, String statement) {
        Bench.holds(code, "module a ( input x ) ; reg r ; always @ ( posedge clock ) " + statement + " endmodule");
    }

    /** So many that are open in a statement; the last of them is a begin, whose ( is none. */
    private static String within(String[] kind, int open, String inner) {
        return nested(kind, open - 1, "begin " + inner + " end");
    }

    /** "at a .. begin if case with which more than 60 of these are open". */
    private static void statementWithinStatement() {
        for (String[] outer : STATEMENTS) {
            for (String inner : INNER) {
                for (int open = MOST - 1; open <= MOST + 1; open++) {
                    always(open <= MOST ? 0 : 3, within(outer, open - 1, inner));
                }
            }
            always(0, within(outer, MOST - 2, "if ( x ) r <= x ;"));
            always(0, within(outer, MOST - 2, "case ( x ) endcase"));
            always(3, within(outer, MOST, "`if ( x ) r <= x ;"));
            always(3, within(outer, MOST, "`case ( x ) endcase"));
        }
        always(0, "begin ".repeat(60) + "end ".repeat(60));
        always(3, "begin ".repeat(60) + "`begin " + "end ".repeat(61));
    }

    /** The ( of an if or a case is open within it: at 60 there is no room for it. */
    private static void parenthesesOfStatements() {
        for (String[] outer : STATEMENTS) {
            always(3, within(outer, MOST - 1, "if `( x ) r <= x ;"));
            always(3, within(outer, MOST - 1, "case `( x ) endcase"));
            always(3, within(outer, MOST - 2, "if ( `( x ) ) r <= x ;"));
            always(3, within(outer, MOST - 2, "case ( x `[ 0 ] ) endcase"));
            // but it is closed behind the exp
            always(0, within(outer, MOST - 2, "if ( x ) begin end else begin end"));
            always(0, within(outer, MOST - 2, "case ( x ) 1'd0 : begin end default : begin end endcase"));
            always(3, within(outer, MOST - 2, "if ( x ) begin `begin end end"));
            always(3, within(outer, MOST - 2, "case ( x ) 1'd0 : begin `begin end end endcase"));
            always(3, within(outer, MOST - 2, "case ( x ) default : begin `begin end end endcase"));
        }
    }

    /** "begin and case to end and endcase, if to the end of its statement": behind these there is room again. */
    private static void closedStatements() {
        String[] whole = {"begin end ", "if ( x ) r <= x ; ", "if ( x ) r <= x ; else r <= x ; ", "case ( x ) endcase ",
            "case ( x ) default : r <= x ; endcase ", "case ( x ) 1'd0 : if ( x ) r <= x ; endcase ", "r [ 0 ] <= ( x ) ; "};
        for (String first : whole) {
            always(0, "begin " + first.repeat(70) + "end");
            always(0, "begin " + first + "begin ".repeat(59) + "end ".repeat(60));
            always(3, "begin " + first + "begin ".repeat(59) + "`begin " + "end ".repeat(61));
            for (String second : whole) {
                always(0, "begin ".repeat(57) + first + second + first + " end".repeat(57));
            }
        }
        // an if that ends a case's statement is closed for the next one
        always(0, "begin ".repeat(56) + "case ( x ) 1'd0 : if ( x ) r <= x ; 1'd1 : begin begin begin end end end endcase" + " end".repeat(56));
        always(3, "begin ".repeat(56) + "case ( x ) 1'd0 : if ( x ) r <= x ; 1'd1 : begin begin begin `begin end end end end endcase"
            + " end".repeat(56));
        always(0, "begin ".repeat(56) + "case ( x ) 1'd0 : if ( x ) r <= x ; default : begin begin begin end end end endcase" + " end".repeat(56));
    }

    /** "(its else with it)". */
    private static void ifWithItsElse() {
        for (String then : new String[] {"r <= x ;", "begin end", "case ( x ) endcase"}) {
            String choice = "if ( x ) " + then + " else ";
            always(0, "begin ".repeat(57) + choice + "begin begin end end" + " end".repeat(57));
            always(3, "begin ".repeat(57) + choice + "begin begin `begin end end end" + " end".repeat(57));
            always(0, choice.repeat(58) + "begin begin end end");
            always(3, choice.repeat(58) + "begin begin `begin end end end");
        }
        // not longer than its else
        always(0, "begin ".repeat(57) + "if ( x ) r <= x ; else r <= x ; begin begin begin end end end" + " end".repeat(57));
        always(3, "begin ".repeat(57) + "if ( x ) r <= x ; else r <= x ; begin begin begin `begin end end end end" + " end".repeat(57));
    }

    /** "An else belongs to the latest if without one": in it both ifs are open, and behind it none. */
    private static void elseOfTheLatestIf() {
        String front = "begin ".repeat(56);
        String back = " end".repeat(56);
        always(0, front + "if ( x ) if ( x ) r <= x ; else begin begin end end" + back);
        always(3, front + "if ( x ) if ( x ) r <= x ; else begin begin `begin end end end" + back);
        // the second else is that of the first if, the second if is closed in it
        always(0, front + "if ( x ) if ( x ) r <= x ; else r <= x ; else begin begin begin end end end" + back);
        always(3, front + "if ( x ) if ( x ) r <= x ; else r <= x ; else begin begin begin `begin end end end end" + back);
        // a begin hides the if before it
        always(0, front + "if ( x ) begin if ( x ) r <= x ; end else begin begin begin end end end" + back);
        always(3, front + "if ( x ) begin if ( x ) r <= x ; end else begin begin begin `begin end end end end" + back);
        always(2, "if ( x ) if ( x ) r <= x ; else r <= x ; else r <= x ; `else r <= x ;");
        always(2, "if ( x ) begin if ( x ) r <= x ; end else r <= x ; `else r <= x ;");
    }

    /** The ( of modules, instances, links and always count, and so does the [ of a range; all are closed behind. */
    private static void everyParenthesis() {
        String m = "module m ( input [ 0 : 0 ] p , input q ) ; endmodule module a ( input [ 0 : 0 ] x ) ; reg [ 0 : 0 ] r ; ";
        Bench.holds(0, m + "m i ( . q ( x ) , . p ( " + "(".repeat(58) + "x" + ")".repeat(58) + " ) ) ; endmodule");
        Bench.holds(3, m + "m i ( . q ( x ) , . p ( " + "(".repeat(58) + "`(x" + ")".repeat(59) + " ) ) ; endmodule");
        Bench.holds(0, m + "m i ( . q ( x ) , . p ( x ) ) ; always @ ( posedge clock ) r <= " + "(".repeat(60) + "x" + ")".repeat(60) + " ; endmodule");
        Bench.holds(3, m + "m i ( . q ( x ) , . p ( x ) ) ; always @ ( posedge clock ) r <= " + "(".repeat(60) + "`(x" + ")".repeat(61) + " ; endmodule");
        Bench.holds(0, m + "wire w ; assign w = " + "(".repeat(60) + "x" + ")".repeat(60) + " ; endmodule");
        Bench.holds(3, m + "wire w ; assign w = " + "(".repeat(60) + "`(x" + ")".repeat(61) + " ; endmodule");
        Bench.holds(0, m + "wire w ; assign w = " + "x[".repeat(60) + "x" + "]".repeat(60) + " ; endmodule");
        Bench.holds(3, m + "wire w ; assign w = " + "x[".repeat(60) + "x`[0]" + "]".repeat(60) + " ; endmodule");
        Bench.holds(0, manyModules());
    }

    /** 70 modules, each with ports, items and statements: what they open is closed with them. */
    private static String manyModules() {
        StringBuilder text = new StringBuilder();
        for (int i = 1; i <= 70; i++) {
            text.append("module k").append(i).append("(input[1:0]x);reg r;assert(x[0]?{x}:x);always@(posedge clock)if(x)r<=r;endmodule ");
        }
        return text.toString();
    }

    /** No other token opens: else, end, :, unary and binary operators may be as many as they like. */
    private static void nothingElseCounts() {
        Bench.holds(0, ASSERT + "~".repeat(300) + "x" + "+x".repeat(300) + " ) ; endmodule");
        Bench.holds(0, ASSERT + "x" + "||x&&x|x^x&x==x<x<<x+x*x".repeat(30) + " ) ; endmodule");
        Bench.holds(0, ASSERT + "{x" + ",x".repeat(63) + "} ) ; endmodule");
        Bench.holds(3, ASSERT + "~(".repeat(59) + "~`(x" + ")".repeat(60) + " ) ; endmodule");
        Bench.holds(0, ASSERT + "x+x*(".repeat(59) + "x" + ")".repeat(59) + " ) ; endmodule");
        Bench.holds(3, ASSERT + "x+x*(".repeat(59) + "`(x" + ")".repeat(60) + " ) ; endmodule");
    }
}
