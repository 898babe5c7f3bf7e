/** Part 3, MEANING: faults 20 to 33, and the order in which they are met. */
public final class MeaningTest {
    public static void main(String[] args) {
        namesOfModules();
        declaredNames();
        usedNames();
        links();
        linkOrder();
        ranges();
        operators();
        braces();
        settings();
        driving();
        setting();
        orderOfAll();
        Bench.done("MeaningTest");
    }

    private static void namesOfModules() {
        Bench.faulty(20, "module a ( ) ; endmodule module b ( ) ; endmodule module `a ( ) ; endmodule");
        Bench.right("module a ( ) ; endmodule module A ( ) ; endmodule module a_ ( ) ; endmodule");
        Bench.right("module a ( input a ) ; endmodule module b ( input a ) ; wire b ; assign b = a ; endmodule");
    }

    private static void declaredNames() {
        Bench.faulty(21, "module a ( input x , output reg `x ) ; endmodule");
        Bench.faulty(21, "module a ( input x ) ; wire `x ; endmodule");
        Bench.faulty(21, "module a ( input x ) ; reg `x = 2'd1 ; endmodule");
        Bench.faulty(21, "module a ( ) ; reg r ; wire `r ; endmodule");
        Bench.faulty(21, "module m ( ) ; endmodule module a ( ) ; reg r ; m `r ( ) ; endmodule");
        Bench.faulty(21, "module m ( ) ; endmodule module a ( ) ; m i ( ) ; m `i ( ) ; endmodule");
        Bench.faulty(21, "module m ( ) ; endmodule module a ( ) ; m i ( ) ; reg `i ; endmodule");
        Bench.right("module m ( ) ; endmodule module a ( ) ; m m ( ) ; m n ( ) ; m a ( ) ; endmodule");
    }

    private static void usedNames() {
        String m = "module m ( ) ; endmodule module a ( input x , output reg [1:0] q , output p , output z ) ; ";
        String tail = " assign p = x ; assign z = x ; endmodule";
        Bench.right(m + "reg r ; wire w ; assign w = x ; assert ( { x , q , p , r , w } ) ;" + tail);
        Bench.faulty(22, m + "assert ( `w ) ; wire w ; assign w = x ;" + tail);
        Bench.faulty(22, m + "assert ( x [ `i ] ) ;" + tail);
        Bench.faulty(22, m + "m i ( ) ; assert ( x + `i ) ;" + tail);
        Bench.faulty(22, m + "assert ( `m ) ;" + tail);
        Bench.faulty(22, m + "assert ( `a ) ;" + tail);
        Bench.faulty(22, m + "assign `x = x ;" + tail);
        Bench.faulty(22, m + "assign `q = x ;" + tail);
        Bench.faulty(22, m + "reg r ; assign `r = x ;" + tail);
        Bench.faulty(22, m + "m i ( ) ; assign `i = x ;" + tail);
        Bench.faulty(22, m + "assign `w = x ; wire w ;" + tail);
        String always = "always @ ( posedge clock ) ";
        Bench.right(m + "reg r ; " + always + "begin r <= x ; q <= { x , r } ; end" + tail);
        Bench.faulty(22, m + always + "`x <= x ;" + tail);
        Bench.faulty(22, m + always + "`p <= x ;" + tail);
        Bench.faulty(22, m + "wire w ; " + always + "`w <= x ;" + tail);
        Bench.faulty(22, m + "m i ( ) ; " + always + "`i <= x ;" + tail);
        Bench.faulty(22, m + always + "`r <= x ; reg r ;" + tail);
        Bench.faulty(22, m + always + "q [ 0 ] <= `r ; reg r ;" + tail);
        Bench.faulty(22, m + "`n i ( ) ;" + tail);
        Bench.faulty(22, m + "`a i ( ) ;" + tail);
        Bench.faulty(22, m + "`x i ( ) ;" + tail);
        Bench.faulty(22, "module a ( ) ; `b i ( ) ; endmodule module b ( ) ; endmodule");
        // names of another module are none of this one
        Bench.faulty(22, "module b ( input y ) ; endmodule module a ( ) ; assert ( `y ) ; endmodule");
    }

    private static final String M =
        "module m ( input [1:0] i , output [1:0] o , output reg [1:0] r ) ; wire w ; assign w = i [ 0 ] ; assign o = i ;"
        + " endmodule module a ( input [1:0] x , output [1:0] y ) ; wire [1:0] w ; reg [1:0] g ; wire n ; assign n = x [ 0 ] ; ";

    private static void links() {
        String tail = " endmodule";
        Bench.right(M + "m k ( .i(x) , .o(y) , .r(w) ) ;" + tail);
        Bench.right(M + "m k ( .r(y) , .i(x + g) , .o(w) ) ;" + tail);
        Bench.faulty(23, M + "m k ( .i(x) , .`w(n) , .r(w) ) ;" + tail);
        Bench.faulty(23, M + "m k ( .i(x) , .`k(n) , .r(w) ) ;" + tail);
        Bench.faulty(23, M + "m k ( .i(x) , .o(w) , .`i(x) , .r(y) ) ;" + tail);
        Bench.faulty(23, M + "m k ( .i(x) , .o(w) , .`o(y) , .r(y) ) ;" + tail);
        Bench.faulty(24, M + "m `k ( .i(x) , .o(w) ) ;" + tail);
        Bench.faulty(24, M + "m `k ( ) ;" + tail);
        Bench.faulty(24, M + "m k ( .i(x) , .o(w) , .r(y) ) ; m `l ( .i(x) ) ;" + tail);
        Bench.faulty(25, M + "m k ( .i(x) , .o(`(w)) , .r(y) ) ;" + tail);
        Bench.faulty(25, M + "m k ( .i(x) , .o(`w[1:0]) , .r(y) ) ;" + tail);
        Bench.faulty(25, M + "m k ( .i(x) , .o(`{w}) , .r(y) ) ;" + tail);
        Bench.faulty(25, M + "m k ( .i(x) , .o(`~w) , .r(y) ) ;" + tail);
        Bench.faulty(25, M + "m k ( .i(x) , .o(`w + w) , .r(y) ) ;" + tail);
        Bench.faulty(25, M + "m k ( .i(x) , .o(`x) , .r(y) ) ;" + tail);
        Bench.faulty(25, M + "m k ( .i(x) , .o(`g) , .r(y) ) ;" + tail);
        Bench.faulty(25, M + "m k ( .i(x) , .o(w) , .r(`g) ) ;" + tail);
        Bench.faulty(25, M + "m k ( .i(x) , .o(w) , .r(`2'd1) ) ;" + tail);
        Bench.faulty(30, M + "m k ( `.i(x[0]) , .o(w) , .r(y) ) ;" + tail);
        Bench.faulty(30, M + "m k ( `. i(3'd1) , .o(w) , .r(y) ) ;" + tail);
        Bench.faulty(31, M + "m k ( .i(x) , .o(w) , .r(`w) ) ;" + tail);
        Bench.faulty(31, M + "m k ( .i(x) , .o(w) , .r(y) ) ; assign `w = x ;" + tail);
        Bench.faulty(31, M + "assign w = x ; m k ( .i(x) , .o(y) , .r(`w) ) ;" + tail);
        // what is linked to an input is not driven by that
        Bench.faulty(33, "module m ( input p ) ; endmodule module a ( ) ; wire `w ; m k ( .p(w) ) ; endmodule");
    }

    /** Of a link NAME, exp, 25, 30, 31; of an instance its module, its own NAME, its links, then 24. */
    private static void linkOrder() {
        String tail = " endmodule";
        Bench.faulty(23, M + "m k ( .`z(q) ) ;" + tail);
        Bench.faulty(22, M + "m k ( .i(x) , .o(`q) ) ;" + tail);
        Bench.faulty(22, M + "m k ( .i(x) , .o(`k) ) ;" + tail);
        Bench.faulty(30, M + "m k ( .i(x) , .o(w`[2]) ) ;" + tail);
        Bench.faulty(25, M + "m k ( .i(x) , .o(`x[0]) ) ;" + tail);
        Bench.faulty(30, M + "m k ( .i(x) , `.o(n) ) ;" + tail);
        Bench.faulty(22, M + "`mm w ( .z(q) ) ;" + tail);
        Bench.faulty(21, M + "m `w ( .z(q) ) ;" + tail);
        Bench.faulty(31, M + "m k ( .o(w) , .r(`w) ) ;" + tail);
        Bench.faulty(24, M + "m `k ( .i(x) , .o(w) ) ; assert ( q ) ;" + tail);
    }

    private static void ranges() {
        Bench.right("module a ( input [63:0] x ) ; endmodule");
        Bench.faulty(30, "module a ( input `[64:0] x ) ; endmodule");
        Bench.faulty(30, "module a ( input `[1:1] x ) ; endmodule");
        Bench.faulty(30, "module a ( input `[0:1] x ) ; endmodule");
        Bench.faulty(30, "module a ( input x , output reg `[3:2] x ) ; endmodule");
        Bench.faulty(30, "module a ( ) ; wire `[64:0] x ; endmodule");
        Bench.faulty(30, "module a ( ) ; reg `[64:0] x = 1'd1 ; endmodule");
        Bench.faulty(30, "module a ( ) ; reg x = `2'd1 ; endmodule");
        Bench.faulty(30, "module a ( output reg [3:0] x = `3'd1 ) ; endmodule");
        Bench.faulty(30, "module a ( ) ; reg [63:0] x = `63'd1 ; endmodule");
    }

    private static void exp(int code, String exp) {
        String text = "module a ( input c , input [3:0] x , input [3:0] y , input [2:0] z , input [63:0] l ) ; assert ( "
            + exp + " ) ; endmodule";
        if (code == 0) {
            Bench.right(text);
        } else {
            Bench.faulty(code, text);
        }
    }

    private static void width(String exp, int width) {
        // == goes together with the right width alone
        exp(0, "( " + exp + " ) == " + width + "'d0");
        exp(30, "( " + exp + " ) `== " + (width == 64 ? 63 : width + 1) + "'d0");
    }

    private static void operators() {
        for (String operator : new String[] {"+", "-", "*", "&", "|", "^"}) {
            width("x " + operator + " y", 4);
            exp(30, "x `" + operator + " z");
        }
        for (String operator : new String[] {"==", "!=", "<", "<=", ">", ">="}) {
            width("x " + operator + " y", 1);
            exp(30, "x `" + operator + " z");
        }
        for (String operator : new String[] {"&&", "||"}) {
            width("x " + operator + " z", 1);
        }
        for (String operator : new String[] {"<<", ">>"}) {
            width("x " + operator + " l", 4);
            width("l " + operator + " x", 64);
        }
        width("~ x", 4);
        width("- x", 4);
        width("~ - ~ x", 4);
        width("- ! ~ x", 1);
        for (String operator : new String[] {"!", "&", "|", "^"}) {
            width(operator + " x", 1);
            width("~ " + operator + " x", 1);
        }
        width("c ? x : y", 4);
        width("l ? x : y", 4);
        exp(30, "c `? x : z");
        width("x [ l ]", 1);
        width("x [ 3 ]", 1);
        width("x [ 3 : 0 ]", 4);
        width("x [ 2 : 1 ]", 2);
        width("l [ 63 : 1 ]", 63);
        exp(30, "x `[ 4 ]");
        exp(30, "x `[ 4 : 0 ]");
        exp(30, "x `[ 1 : 2 ]");
        exp(30, "x `[ 65535 : 0 ]");
        exp(30, "c `[ 1 ]");
        width("c [ 0 ]", 1);
        // by ranks, and from the left
        width("x == y + x * y", 1);
        width("c == x < y", 1);
        width("x << z + z", 4);
        exp(30, "x == y `== x");
        width("x == y == c", 1);
        exp(30, "c `== x == y");
        exp(0, "c & x == y");
        exp(0, "c ^ c & x == y");
        exp(0, "c | c ^ c");
        exp(30, "x & y `== c");
        exp(0, "c == c < c");
        exp(0, "x == y && l || z");
        exp(0, "x < y << l");
        width("z << x - y", 3);
    }

    private static void braces() {
        width("{ x , z }", 7);
        width("{ x }", 4);
        width("{ l }", 64);
        width("{ 16 { x } }", 64);
        width("{ 1 { x } }", 4);
        width("{ 2 { { x , c } } }", 10);
        exp(30, "`{ l , c }");
        exp(30, "`{ 17 { x } }");
        exp(30, "`{ 0 { x } }");
        exp(30, "`{ 65535 { l } }");
        exp(30, "{ c , `{ 0 { x } } }");
        exp(30, "`{ { 16 { x } } , c }");
        // what is within comes first, also behind where the sum is above 64
        exp(22, "{ l , c , `q }");
        exp(22, "{ 0 { `q } }");
        exp(30, "{ l , c , x `+ z }");
        exp(30, "{ 0 { x `+ z } }");
    }

    /** Where widths of assigns, <= and case go apart. */
    private static void settings() {
        String head = "module a ( input c , input [3:0] x , output [3:0] w ) ; reg [3:0] r ; ";
        String tail = " endmodule";
        Bench.right(head + "assign w = x ;" + tail);
        Bench.faulty(30, head + "assign w `= c ;" + tail);
        Bench.faulty(30, head + "assign w = x `+ c ;" + tail);
        Bench.faulty(22, head + "assign w = { c , `q } ;" + tail);
        String always = head + "assign w = x ; always @ ( posedge clock ) ";
        Bench.faulty(30, always + "r `<= c ;" + tail);
        Bench.faulty(30, always + "r [ 1 ] `<= x ;" + tail);
        Bench.faulty(30, always + "r [ 2 : 1 ] `<= c ;" + tail);
        Bench.faulty(30, always + "r `[ 4 ] <= q ;" + tail);
        Bench.faulty(30, always + "r `[ 1 : 2 ] <= q ;" + tail);
        Bench.faulty(30, always + "r <= x `<= c ;" + tail);
        Bench.faulty(30, always + "r `<= x <= x ;" + tail);
        Bench.faulty(22, always + "r [ 1 ] <= { x , `q } ;" + tail);
        Bench.right(always + "r [ 0 ] <= x <= x ;" + tail);
        Bench.right(always + "case ( x ) 4'd1 , 4'd2 : r <= x ; 4'd2 : r [ 0 ] <= c ; endcase" + tail);
        Bench.faulty(30, always + "case ( x ) 4'd1 , `3'd2 : r <= q ; endcase" + tail);
        Bench.faulty(30, always + "case ( x ) 4'd1 : r <= x ; `1'd1 : r <= q ; endcase" + tail);
        Bench.faulty(30, always + "case ( x == x ) `4'd1 : r <= q ; endcase" + tail);
        Bench.faulty(22, always + "case ( `q ) 4'd1 : r <= q ; endcase" + tail);
        Bench.faulty(22, always + "if ( `q ) r <= q ;" + tail);
        Bench.faulty(22, always + "if ( c ) r <= x ; else r <= `q ;" + tail);
        Bench.faulty(22, always + "case ( x ) default : r <= `q ; endcase" + tail);
    }

    private static void driving() {
        Bench.right("module a ( output o ) ; wire w ; assign o = w ; assign w = o ; endmodule");
        Bench.faulty(31, "module a ( output o ) ; assign o = 1'd1 ; assign `o = q ; endmodule");
        Bench.faulty(31, "module a ( ) ; wire w ; assign w = 1'd1 ; assign `w = 2'd1 ; endmodule");
        Bench.faulty(33, "module a ( output `o ) ; endmodule");
        Bench.faulty(33, "module a ( output `o ) ; wire w ; endmodule");
        Bench.faulty(33, "module a ( output o ) ; wire `w ; wire v ; assign o = w ; endmodule");
        Bench.faulty(33, "module a ( output `o ) ; assert ( o ) ; endmodule module a ( ) ; endmodule");
        Bench.faulty(30, "module a ( output o ) ; assert ( 1'd1 `+ 2'd1 ) ; endmodule");
        Bench.right("module a ( output reg o ) ; reg r ; endmodule");
    }

    private static void setting() {
        String head = "module a ( input c ) ; reg [1:0] r ; reg s ; ";
        String always = "always @ ( posedge clock ) ";
        Bench.right(head + always + "begin r <= r ; r [ 0 ] <= c ; end " + always + "s <= c ; endmodule");
        Bench.faulty(32, head + always + "r <= r ; " + always + "`r <= r ; endmodule");
        Bench.faulty(32, head + always + "r [ 0 ] <= c ; " + always + "`r [ 1 ] <= c ; endmodule");
        Bench.faulty(32, head + always + "if ( c ) s <= c ; " + always + "r <= r ; " + always
            + "begin `s <= c ; end endmodule");
        Bench.faulty(32, head + always + "r <= r ; " + always + "`r [ 7 ] <= q ; endmodule");
        // another module's always are others
        Bench.right(head + always + "r <= r ; endmodule module b ( ) ; reg r ; " + always + "begin end "
            + always + "r <= r ; endmodule");
    }

    private static void orderOfAll() {
        Bench.faulty(22, "module a ( output o ) ; assert ( `p + q ) ; endmodule");
        Bench.faulty(30, "module a ( ) ; assert ( 1'd1 `+ 2'd1 + q ) ; endmodule");
        Bench.faulty(22, "module a ( ) ; assert ( 1'd1 + 2'd1 * `q ) ; endmodule");
        Bench.faulty(30, "module a ( ) ; assert ( 1'd1 + 2'd1 `* 1'd1 ) ; endmodule");
        Bench.faulty(30, "module a ( ) ; assert ( 1'd1 `+ 2'd1 * 2'd1 ) ; endmodule");
        Bench.faulty(22, "module a ( ) ; assert ( 1'd1 ? 1'd1 : { 2'd1 , `q } ) ; endmodule");
        Bench.faulty(30, "module a ( ) ; assert ( 1'd1 `+ 2'd1 ? q : q ) ; endmodule");
        Bench.faulty(30, "module a ( ) ; assert ( 1'd1 ? 1'd1 : 1'd1 `+ 2'd1 ) ; endmodule");
        Bench.faulty(30, "module a ( ) ; assert ( 1'd1 ? 1'd1 : 1'd1 `? 1'd1 : 2'd1 ) ; endmodule");
        Bench.faulty(22, "module a ( ) ; reg r ; assert ( `q [ 9 ] ) ; endmodule");
        Bench.faulty(22, "module a ( ) ; reg r ; assert ( `q [ p ] ) ; endmodule");
        Bench.faulty(33, "module a ( ) ; wire `w ; endmodule module a ( ) ; endmodule");
        Bench.faulty(21, "module a ( input x , input `x ) ; wire w ; endmodule module a ( ) ; endmodule");
    }
}
