/**
 * Part 3, MEANING: "these are faults, the first one that is met counts". Each text has two faults or more, of which the mark
 * shows the one that is met first; each method's comment is the sentence it looks at.
 */
public final class OrderEdgeTest {
    private static final String ALWAYS = "always @ ( posedge clock ) ";
    /** n is undriven until the end; q is not declared anywhere. */
    private static final String HEAD = "module m ( input [ 1 : 0 ] i , output [ 1 : 0 ] o ) ; assign o = i ; endmodule "
        + "module a ( input [ 1 : 0 ] x , input c , output [ 1 : 0 ] y ) ; wire [ 1 : 0 ] w ; wire n ; reg [ 1 : 0 ] r ; ";

    public static void main(String[] args) {
        fromTheLeft();
        declarations();
        operandsBeforeOperators();
        operandsFromTheLeft();
        nameBeforeItsPart();
        braces();
        assigns();
        settings();
        statements();
        links();
        instances();
        notLinkedAtTheSemicolon();
        notDrivenAtTheEnd();
        Bench.done("OrderEdgeTest");
    }

    private static void item(int code, String item) {
        Bench.holds(code, HEAD + item + " endmodule");
    }

    private static void exp(int code, String exp) {
        item(code, "assert ( " + exp + " ) ;");
    }

    /** "The text is gone through from the left": modules, ports, items. */
    private static void fromTheLeft() {
        Bench.holds(20, "module a ( ) ; endmodule module `a ( input x , input x ) ; endmodule");
        Bench.holds(21, "module a ( input x , input `x ) ; endmodule module a ( ) ; endmodule");
        Bench.holds(30, "module a ( input `[ 64 : 0 ] x , input x ) ; endmodule");
        Bench.holds(21, "module a ( input x , input `x , input [ 64 : 0 ] z ) ; endmodule");
        item(22, "assert ( `q ) ; assign x = x ;");
        item(22, "assign `x = x ; assert ( q ) ;");
        item(30, "assert ( c `+ x ) ; reg r ;");
        item(21, "reg `r ; assert ( c + x ) ;");
    }

    /** Of a declaration its range, its NAME, then what it begins with. */
    private static void declarations() {
        item(30, "wire `[ 64 : 0 ] r ;");
        item(30, "reg `[ 64 : 0 ] r = 9'd1 ;");
        item(21, "reg [ 63 : 0 ] `r = 9'd1 ;");
        item(30, "reg [ 63 : 0 ] s = `9'd1 ; reg r ;");
        Bench.holds(30, "module a ( input x , output reg `[ 3 : 1 ] x = 1'd1 ) ; endmodule");
        Bench.holds(21, "module a ( input x , output reg [ 3 : 0 ] `x = 1'd1 ) ; endmodule");
        Bench.holds(30, "module a ( output reg [ 3 : 0 ] x = `1'd1 , input x ) ; endmodule");
    }

    /** "In an exp operands are met before their operator". */
    private static void operandsBeforeOperators() {
        for (String operator : new String[] {"+", "-", "*", "&", "|", "^", "==", "!=", "<", "<=", ">", ">="}) {
            exp(22, "( c ) " + operator + " { x , `q }");
            exp(30, "( c `+ x ) " + operator + " x");
            exp(30, "x " + operator + " ( c `+ x )");
            exp(30, "c " + operator + " x `[ 2 ]");
            exp(30, "c `" + operator + " x");
        }
        for (String operator : new String[] {"&&", "||", "<<", ">>"}) {
            exp(22, "c " + operator + " `q");
            exp(30, "c " + operator + " ( c `+ x )");
        }
        exp(22, "c ? c : { x , `q }");
        exp(30, "c ? c : ( x `+ c )");
        exp(30, "c ? c `+ x : x");
        exp(30, "c `+ x ? q : q");
        exp(30, "c `? c : x");
        exp(30, "c `? c : x ? x : x");
        exp(30, "c ? c : c `? c : x");
        exp(30, "x + ~ ( c `+ x )");
    }

    /** ".. from the left": what binds more comes first only when it stands further to the left, or within. */
    private static void operandsFromTheLeft() {
        exp(22, "`q + p");
        exp(22, "x [ `q ] + p");
        exp(22, "{ `q , p }");
        exp(22, "c ? `q : p");
        exp(22, "`q ? p : p");
        exp(30, "c `+ x + q");
        exp(22, "c + x * `q");
        exp(30, "c `+ x * x");
        exp(30, "c + x `* c");
        exp(30, "c `* x + q");
        exp(30, "c `+ x && q");
        exp(22, "c && x + `q");
        exp(30, "c `+ x ? q : q");
        // by ranks: each of two neighbours, where only their order tells them apart
        String[][] ranks = {{"|"}, {"^"}, {"&"}, {"==", "!="}, {"<", "<=", ">", ">="}, {"+", "-"}, {"*"}};
        for (int low = 0; low < ranks.length; low++) {
            for (int high = low; high < ranks.length; high++) {
                for (String less : ranks[low]) {
                    for (String more : ranks[high]) {
                        String mine = low == high ? "c `" + less + " x " + more + " c" : "c " + less + " x `" + more + " c";
                        exp(30, mine);
                        exp(30, "c `" + more + " x " + less + " c");
                    }
                }
            }
        }
    }

    /** "a name before its part", and before its index. */
    private static void nameBeforeItsPart() {
        exp(22, "`q [ 9 ]");
        exp(22, "`q [ 0 : 1 ]");
        exp(22, "`q [ p ]");
        exp(30, "x `[ 2 ] + q");
        exp(22, "x [ `q ]");
        exp(30, "x [ x `[ 2 ] ]");
    }

    /** Braces are met behind all that is within them, the inner ones before the outer ones. */
    private static void braces() {
        exp(22, "{ 64'd0 , c , `q }");
        exp(22, "{ 0 { `q } }");
        exp(30, "{ 64'd0 , c , c `+ x }");
        exp(30, "{ 0 { c `+ x } }");
        exp(30, "`{ 64'd0 , c } + q");
        exp(30, "{ `{ 64'd0 , c } , q }");
        exp(30, "`{ 0 { c } } + q");
        exp(30, "`{ 64'd0 , c } + c");
        exp(30, "{ `{ 0 { c } } , { 0 { c } } }");
    }

    /** "of an assignment the name (22, then 31 ..), then exp, then the sign". */
    private static void assigns() {
        item(22, "assign `q = p ;");
        item(22, "assign `x = { c , p } ;");
        item(22, "assign `c = x ;");
        item(31, "assign w = x ; assign `w = q ;");
        item(31, "assign w = x ; assign `w = c ;");
        item(31, "assign w = x ; assign `w = c + x ;");
        item(22, "assign w = { c , c , `q } ;");
        item(30, "assign w = c `+ x ;");
        item(30, "assign w = { c , c `+ x , c } ;");
        item(30, "assign w `= c ;");
        item(30, "assign w `= c ; assert ( q ) ;");
    }

    /** "of an assignment the name (22, then .. 32) and part, then exp, then the sign". */
    private static void settings() {
        item(22, ALWAYS + "`q [ 9 ] <= p ;");
        item(22, ALWAYS + "`w [ 9 ] <= p ;");
        item(22, ALWAYS + "`c <= x ;");
        item(32, ALWAYS + "r <= x ; " + ALWAYS + "`r [ 2 ] <= q ;");
        item(32, ALWAYS + "r <= x ; " + ALWAYS + "`r <= q ;");
        item(32, ALWAYS + "r <= x ; " + ALWAYS + "`r <= c ;");
        item(30, ALWAYS + "r `[ 2 ] <= q ;");
        item(30, ALWAYS + "r `[ 2 ] <= x ;");
        item(30, ALWAYS + "r `[ 0 : 1 ] <= q ;");
        item(22, ALWAYS + "r [ 0 ] <= { x , `q } ;");
        item(22, ALWAYS + "r <= { c , c , `q } ;");
        item(30, ALWAYS + "r <= c `+ x ;");
        item(30, ALWAYS + "r [ 0 ] <= x `<= c ;");
        item(30, ALWAYS + "r `<= x <= x ;");
        item(30, ALWAYS + "begin r `<= c ; q <= p ; end");
    }

    /** Statements and what they ask for, as they stand in the text. */
    private static void statements() {
        item(22, ALWAYS + "if ( `q ) r <= c ;");
        item(30, ALWAYS + "if ( c ) r `<= c ; else q <= p ;");
        item(22, ALWAYS + "if ( c ) r <= x ; else `q <= p ;");
        item(22, ALWAYS + "case ( `q ) 3'd0 : r <= c ; endcase");
        item(30, ALWAYS + "case ( c `+ x ) 3'd0 : r <= q ; endcase");
        item(30, ALWAYS + "case ( x ) `3'd0 : r <= q ; endcase");
        item(30, ALWAYS + "case ( x ) 2'd0 , `3'd0 , 1'd1 : r <= q ; endcase");
        item(30, ALWAYS + "case ( x ) 2'd0 : r `<= c ; 3'd0 : q <= p ; endcase");
        item(30, ALWAYS + "case ( x ) 2'd0 : r <= x ; `3'd0 : q <= p ; endcase");
        item(22, ALWAYS + "case ( x ) default : r <= `q ; endcase assert ( p ) ;");
    }

    /** "of a link NAME, exp, 25, 30, 31". */
    private static void links() {
        item(23, "m k ( . `z ( q ) ) ;");
        item(23, "m k ( . `z ( c + x ) ) ;");
        item(23, "m k ( . i ( x ) , . `i ( q ) ) ;");
        item(22, "m k ( . i ( { x , `q } ) ) ;");
        item(22, "m k ( . o ( c + `q ) ) ;");
        item(30, "m k ( . o ( c `+ x ) ) ;");
        item(30, "m k ( . o ( w `[ 2 ] ) ) ;");
        item(25, "m k ( . o ( `c ) ) ;");
        item(25, "m k ( . o ( `w [ 0 ] ) ) ;");
        item(25, "m k ( . o ( `{ c , x } ) ) ;");
        item(30, "m k ( `. o ( n ) ) ;");
        item(30, "assign n = c ; m k ( `. o ( n ) ) ;");
        item(31, "assign w = x ; m k ( . o ( `w ) ) ;");
        item(31, "assign w = x ; m k ( . o ( `w ) , . z ( q ) ) ;");
        item(30, "m k ( `. i ( c ) , . z ( q ) ) ;");
    }

    /** "of an instance its module, its own NAME, its links". */
    private static void instances() {
        item(22, "`q r ( . z ( p ) ) ;");
        item(22, "`q k ( . z ( p ) ) ;");
        item(21, "m `r ( . z ( p ) ) ;");
        item(21, "m `r ( ) ;");
        item(21, "m `r ( . i ( x ) , . o ( w ) ) ; assert ( q ) ;");
        item(23, "m k ( . `z ( p ) ) ; assert ( q ) ;");
        item(22, "`q k ( ) ; m r ( ) ;");
    }

    /** "24 at an instance's own NAME: .. (met at its ;)": behind its links, before the next item. */
    private static void notLinkedAtTheSemicolon() {
        item(22, "m k ( . i ( `q ) ) ;");
        item(30, "m k ( `. i ( c ) ) ;");
        item(25, "m k ( . o ( `x ) ) ;");
        item(31, "assign w = x ; m k ( . o ( `w ) ) ;");
        item(23, "m k ( . i ( x ) , . `i ( x ) ) ;");
        item(24, "m `k ( . i ( x ) ) ; assert ( q ) ;");
        item(24, "m `k ( . o ( w ) ) ; assign w = x ;");
        item(24, "m `k ( ) ; m k ( ) ;");
    }

    /** "33 .., met at endmodule, in their order": behind all of the module, before the next one. */
    private static void notDrivenAtTheEnd() {
        Bench.holds(33, "module a ( output `o ) ; endmodule module a ( ) ; endmodule");
        Bench.holds(33, "module a ( ) ; wire `w ; endmodule module b ( input x , input x ) ; endmodule");
        Bench.holds(22, "module a ( output o ) ; wire w ; assert ( `q ) ; endmodule");
        Bench.holds(30, "module a ( output o ) ; assert ( 1'd0 `+ 2'd0 ) ; endmodule");
        Bench.holds(21, "module a ( output o ) ; wire `o ; endmodule");
        Bench.holds(24, "module m ( input p ) ; endmodule module a ( output o ) ; m `k ( ) ; endmodule");
        Bench.holds(33, "module a ( output `o , output p ) ; wire w ; endmodule");
        Bench.holds(33, "module a ( output o , output `p ) ; wire w ; assign o = 1'd0 ; endmodule");
        Bench.holds(33, "module a ( output o , output p ) ; wire `w ; wire v ; assign p = 1'd0 ; assign o = 1'd0 ; endmodule");
        Bench.holds(33, "module a ( output o , output p ) ; wire w ; wire `v ; assign p = 1'd0 ; assign w = 1'd0 ; assign o = 1'd0 ; endmodule");
    }
}
