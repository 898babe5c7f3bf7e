/** Part 2, GRAMMAR: faults 2 and 3, and which of 1, 2 and 3 counts. */
public final class GrammarTest {
    private static final String HEAD = "module a ( input x , input y ) ; assert ( ";
    private static final String TAIL = " ) ; endmodule";

    public static void main(String[] args) {
        modules();
        ports();
        items();
        statements();
        expressions();
        tapeEnds();
        depth();
        depthOfStatements();
        whichCounts();
        Bench.done("GrammarTest");
    }

    private static String times(int n, String text) {
        StringBuilder all = new StringBuilder();
        for (int i = 0; i < n; i++) {
            all.append(text);
        }
        return all.toString();
    }

    private static void modules() {
        Bench.faulty(2, "module `( ) ; endmodule");
        Bench.faulty(2, "module a `; endmodule");
        Bench.faulty(2, "module a ( `; endmodule");
        Bench.faulty(2, "module a ( ) `endmodule");
        Bench.faulty(2, "module a ( ) ; `module b ( ) ; endmodule endmodule");
        Bench.faulty(2, "module a ( ) ; endmodule `;");
        Bench.faulty(2, "module a ( ) ; endmodule module b ( ) ; endmodule `a");
    }

    private static void ports() {
        Bench.right("module a ( output reg [1:0] p = 2'd0 , output reg q , input r ) ; endmodule");
        Bench.faulty(2, "module a ( `p ) ; endmodule");
        Bench.faulty(2, "module a ( `, input p ) ; endmodule");
        Bench.faulty(2, "module a ( input p , `) ; endmodule");
        Bench.faulty(2, "module a ( input p `input q ) ; endmodule");
        Bench.faulty(2, "module a ( input p , `q ) ; endmodule");
        Bench.faulty(2, "module a ( input `reg p ) ; endmodule");
        Bench.faulty(2, "module a ( input `wire p ) ; endmodule");
        Bench.faulty(2, "module a ( `wire p ) ; endmodule");
        Bench.faulty(2, "module a ( input p `= 1'd0 ) ; endmodule");
        Bench.faulty(2, "module a ( output p `= 1'd0 ) ; endmodule");
        Bench.faulty(2, "module a ( output [1:0] `reg p ) ; endmodule");
        Bench.faulty(2, "module a ( output reg p = `1 ) ; endmodule");
        Bench.faulty(2, "module a ( output reg p = `p ) ; endmodule");
        Bench.faulty(2, "module a ( input p `[1:0] ) ; endmodule");
        Bench.faulty(2, "module a ( input [1`] p ) ; endmodule");
        Bench.faulty(2, "module a ( input [`] p ) ; endmodule");
        Bench.faulty(2, "module a ( input [1:`] p ) ; endmodule");
        Bench.faulty(2, "module a ( input [1:`a] p ) ; endmodule");
        Bench.faulty(2, "module a ( input [1:0] `[1:0] p ) ; endmodule");
    }

    private static void items() {
        Bench.faulty(2, "module a ( ) ; wire w `= 1'd1 ; endmodule");
        Bench.faulty(2, "module a ( ) ; wire w `, v ; endmodule");
        Bench.faulty(2, "module a ( ) ; reg r `, s ; endmodule");
        Bench.faulty(2, "module a ( ) ; reg r = `; endmodule");
        Bench.faulty(2, "module a ( ) ; reg `1 ; endmodule");
        Bench.faulty(2, "module a ( ) ; `; endmodule");
        Bench.faulty(2, "module a ( ) ; `input x ; endmodule");
        Bench.faulty(2, "module a ( output w ) ; assign w `<= 1'd1 ; endmodule");
        Bench.faulty(2, "module a ( output w ) ; assign w `[0] = 1'd1 ; endmodule");
        Bench.faulty(2, "module a ( output w ) ; assign `( w ) = 1'd1 ; endmodule");
        Bench.faulty(2, "module a ( output w ) ; assign w = `; endmodule");
        Bench.faulty(2, "module a ( output w ) ; assign w = `1 ; endmodule");
        Bench.faulty(2, "module a ( output w ) ; assign w = 1'd1 `endmodule");
        Bench.faulty(2, "module a ( ) ; assert `1'd1 ; endmodule");
        Bench.faulty(2, "module a ( ) ; assert ( `) ; endmodule");
        Bench.faulty(2, "module a ( ) ; assert ( 1'd1 `, 1'd1 ) ; endmodule");
        Bench.faulty(2, "module a ( ) ; always `( posedge clock ) begin end endmodule");
        Bench.faulty(2, "module a ( ) ; always @ `posedge clock begin end endmodule");
        Bench.faulty(2, "module a ( ) ; always @ ( `clock ) begin end endmodule");
        Bench.faulty(2, "module a ( ) ; always @ ( posedge `a ) begin end endmodule");
        Bench.faulty(2, "module a ( ) ; always @ ( posedge clock ) `endmodule");
        Bench.right("module a ( ) ; always @ ( posedge clock ) begin end endmodule");
        String m = "module m ( input p , input q ) ; endmodule module a ( input x ) ; ";
        Bench.right("module m ( ) ; endmodule module a ( ) ; m i ( ) ; endmodule");
        Bench.right(m + "m i ( . q ( x ) , . p ( x ) ) ; endmodule");
        Bench.faulty(2, m + "m `( . q ( x ) , . p ( x ) ) ; endmodule");
        Bench.faulty(2, m + "m i `. q ( x ) ; endmodule");
        Bench.faulty(2, m + "m i ( `q ( x ) ) ; endmodule");
        Bench.faulty(2, m + "m i ( `, . q ( x ) ) ; endmodule");
        Bench.faulty(2, m + "m i ( . q ( x ) , `) ; endmodule");
        Bench.faulty(2, m + "m i ( . q ( `) , . p ( x ) ) ; endmodule");
        Bench.faulty(2, m + "m i ( . q `, . p ( x ) ) ; endmodule");
        Bench.faulty(2, m + "m i ( . q ( x ) `. p ( x ) ) ; endmodule");
        Bench.faulty(2, m + "m i ( . q ( x `, x ) ) ; endmodule");
        Bench.faulty(2, m + "m i ( . q ( x ) , . p ( x ) ) `endmodule");
        Bench.faulty(2, m + "m `= x ; endmodule");
    }

    private static void always(int code, String statement) {
        String text = "module a ( input x ) ; reg [3:0] r ; always @ ( posedge clock ) " + statement + " endmodule";
        if (code == 0) {
            Bench.right(text);
        } else {
            Bench.faulty(code, text);
        }
    }

    private static void statements() {
        always(0, "r <= 4'd1 ;");
        always(0, "r [ 3 ] <= x ;");
        always(0, "r [ 3 : 2 ] <= 2'd1 ;");
        always(0, "begin r <= 4'd1 ; begin end r <= r ; end");
        always(0, "if ( x ) if ( x ) r <= r ; else r <= r ; else r <= r ;");
        always(0, "case ( x ) endcase");
        always(0, "case ( x ) default : begin end endcase");
        always(0, "case ( x ) 1'd0 , 1'd1 : r <= r ; 1'd1 : begin end default : r <= r ; endcase");
        always(0, "case ( x ) 1'd0 : if ( x ) r <= r ; 1'd1 : r <= r ; endcase");
        always(2, "`;");
        always(2, "r `= 4'd1 ;");
        always(2, "r [ `x ] <= x ;");
        always(2, "r [ `1'd1 ] <= x ;");
        always(2, "r [ 1 : `x ] <= x ;");
        always(2, "r [ 1 `<= x ;");
        always(2, "r [ 1 ] `[ 1 ] <= x ;");
        always(2, "r <= `; ");
        always(2, "r <= r ; r `<= r ;");
        always(2, "begin r <= r ; `endmodule");
        always(2, "begin r <= r `end");
        always(2, "if `x r <= r ;");
        always(2, "if ( x ) `else r <= r ;");
        always(2, "if ( x ) r <= r ; else r <= r ; `else r <= r ;");
        always(2, "case `x endcase");
        always(2, "case ( x ) `x : r <= r ; endcase");
        always(2, "case ( x ) `1 : r <= r ; endcase");
        always(2, "case ( x ) 1'd1 `r <= r ; endcase");
        always(2, "case ( x ) 1'd1 , `: r <= r ; endcase");
        always(2, "case ( x ) 1'd1 : `1'd0 : r <= r ; endcase");
        always(2, "case ( x ) default `r <= r ; endcase");
        always(2, "case ( x ) default : r <= r ; `default : r <= r ; endcase");
        always(2, "case ( x ) default : r <= r ; `1'd1 : r <= r ; endcase");
        always(2, "case ( x ) default : `endcase");
        always(2, "case ( x ) 1'd1 : r <= r ; `end");
        always(2, "`assign r = r ;");
    }

    private static void expressions() {
        Bench.right(HEAD + "~ ! - & | ^ ~ ~ x" + TAIL);
        Bench.right(HEAD + "x [ 0 ] + x [ 0 : 0 ] + x [ x ] + x [ 1'd0 ]" + TAIL);
        Bench.right(HEAD + "{ x } + { 1 { x } } + ( x )" + TAIL);
        Bench.right(HEAD + "x ? y : x ? y : x" + TAIL);
        Bench.right(HEAD + "x ? x ? y : x : x" + TAIL);
        Bench.right(HEAD + times(1000, "~") + "x" + TAIL);
        Bench.faulty(2, HEAD + "`" + TAIL.trim());
        Bench.faulty(2, HEAD + "`1" + TAIL);
        Bench.faulty(2, HEAD + "x `y" + TAIL);
        Bench.faulty(2, HEAD + "x `~ y" + TAIL);
        Bench.faulty(2, HEAD + "x + `+ y" + TAIL);
        Bench.faulty(2, HEAD + "x + `* y" + TAIL);
        Bench.faulty(2, HEAD + "x + `) ; endmodule");
        Bench.faulty(2, HEAD + "x ? y `) ; endmodule");
        Bench.faulty(2, HEAD + "x `: y" + TAIL);
        Bench.faulty(2, HEAD + "x ? `: y" + TAIL);
        Bench.faulty(2, HEAD + "x [ `]" + TAIL);
        Bench.faulty(2, HEAD + "x [ 1 `+ x ]" + TAIL);
        Bench.faulty(2, HEAD + "x [ x `: 0 ]" + TAIL);
        Bench.faulty(2, HEAD + "x [ 0 : `x ]" + TAIL);
        Bench.faulty(2, HEAD + "x [ 0 : 0 `: 0 ]" + TAIL);
        Bench.faulty(2, HEAD + "x [ 0 ] `[ 0 ]" + TAIL);
        Bench.faulty(2, HEAD + "( x ) `[ 0 ]" + TAIL);
        Bench.faulty(2, HEAD + "1'd1 `[ 0 ]" + TAIL);
        Bench.faulty(2, HEAD + "{ `}" + TAIL);
        Bench.faulty(2, HEAD + "{ x , `}" + TAIL);
        Bench.faulty(2, HEAD + "{ 2 `}" + TAIL);
        Bench.faulty(2, HEAD + "{ 2 `x }" + TAIL);
        Bench.faulty(2, HEAD + "{ 2 { x `, y } }" + TAIL);
        Bench.faulty(2, HEAD + "{ 2 { x } `, x }" + TAIL);
        Bench.faulty(2, HEAD + "{ 2 { `2 } }" + TAIL);
        Bench.faulty(2, HEAD + "{ x `{ x } }" + TAIL);
        Bench.faulty(2, HEAD + "( x `]" + TAIL);
        Bench.faulty(2, HEAD + "( x `}" + TAIL);
        Bench.faulty(2, HEAD + "( x `, y )" + TAIL);
        Bench.faulty(2, HEAD + "`module" + TAIL);
    }

    /** At the tape's end the fault is at its length, whatever blanks there are. */
    private static void tapeEnds() {
        String text = "module a ( output w ) ; assign w = { 1'd1 } ? 1'd0 : 1'd1 ; endmodule";
        for (int n = 0; n < text.length(); n++) {
            if (text.charAt(n) == ' ') {
                Bench.faulty(2, text.substring(0, n) + " // x`");
            }
        }
        Bench.faulty(2, "module a ( ) ; `");
        Bench.faulty(2, "module a ( ) ;   \n`");
        Bench.faulty(2, "module`");
        Bench.faulty(2, "/* x */`");
    }

    private static void depth() {
        // the ( of assert is one of the 60
        Bench.right(HEAD + times(59, "(") + "x" + times(59, ")") + TAIL);
        Bench.faulty(3, HEAD + times(59, "(") + "`(x" + times(60, ")") + TAIL);
        Bench.right(HEAD + times(59, "{") + "x" + times(59, "}") + TAIL);
        Bench.faulty(3, HEAD + times(59, "{") + "`{x" + times(60, "}") + TAIL);
        Bench.right(HEAD + times(29, "{1{") + "x" + times(29, "}}") + TAIL);
        Bench.faulty(3, HEAD + "{" + times(29, "{1{") + "`{1{x" + times(30, "}}") + "}" + TAIL);
        Bench.faulty(3, HEAD + times(29, "{1{") + "{1`{x" + times(30, "}}") + TAIL);
        Bench.right(HEAD + times(59, "x[") + "x" + times(59, "]") + TAIL);
        Bench.faulty(3, HEAD + times(59, "x[") + "x`[0]" + times(59, "]") + TAIL);
        Bench.right(HEAD + times(59, "x?x:") + "x" + TAIL);
        Bench.faulty(3, HEAD + times(59, "x?x:") + "x`?x:x" + TAIL);
        Bench.right(HEAD + times(59, "x?") + "x" + times(59, ":x") + TAIL);
        Bench.faulty(3, HEAD + times(59, "x?") + "x`?x" + times(60, ":x") + TAIL);
        Bench.right(HEAD + times(58, "(") + "x[0]" + times(58, ")") + TAIL);
        Bench.right(HEAD + times(58, "(") + "(x)+(x)" + times(58, ")") + TAIL);
        Bench.right(HEAD + times(58, "(") + "x?x:x" + times(58, ")") + TAIL);
        Bench.right(HEAD + times(57, "(") + "(x?x:x)+(x?x:x)" + times(57, ")") + TAIL);
        Bench.right(HEAD + times(100, "(x)+x[0]+{x}+(x?x:x)+") + "x" + TAIL);
        String m = "module m ( input p ) ; endmodule module a ( input x ) ; m i ( . p ( ";
        Bench.right(m + times(58, "(") + "x" + times(58, ")") + " ) ) ; endmodule");
        Bench.faulty(3, m + times(58, "(") + "`(x" + times(59, ")") + " ) ) ; endmodule");
    }

    private static void depthOfStatements() {
        always(0, times(60, "begin ") + "r <= r ;" + times(60, " end"));
        always(3, times(60, "begin ") + "`begin r <= r ;" + times(61, " end"));
        always(3, times(60, "begin ") + "r `[ 0 ] <= x ;" + times(60, " end"));
        always(0, times(59, "if ( x ) ") + "r <= r ;");
        always(0, times(59, "if ( x ) ") + "r [ 0 ] <= ( x ) ;");
        always(3, times(59, "if ( x ) ") + "if `( x ) r <= r ;");
        always(3, times(60, "begin ") + "`if ( x ) r <= r ;" + times(60, " end"));
        // an if stays open to the end of its else
        always(0, times(59, "if ( x ) r <= r ; else ") + "r <= r ;");
        always(3, times(59, "if ( x ) r <= r ; else ") + "if `( x ) r <= r ;");
        always(0, "begin " + times(100, "if ( x ) r <= r ; else r <= r ; ") + " end");
        always(0, times(59, "case ( x ) 1'd0 : ") + "r <= r ;" + times(59, " endcase"));
        always(3, times(59, "case ( x ) default : ") + "case `( x ) default : r <= r ;" + times(60, " endcase"));
        always(3, times(60, "begin ") + "`case ( x ) endcase" + times(60, " end"));
        always(0, "begin " + times(100, "case ( x ) endcase begin end ") + " end");
    }

    private static void whichCounts() {
        Bench.faulty(1, HEAD + times(59, "(") + "`#" + times(10, "(") + TAIL);
        Bench.faulty(3, HEAD + times(59, "(") + "`( #" + TAIL);
        Bench.faulty(2, HEAD + times(59, "(") + "x `( x" + TAIL);
        Bench.faulty(2, HEAD + "x `x # " + times(70, "(") + TAIL);
        Bench.faulty(1, HEAD + "x `9x ( " + TAIL);
        // faults of meaning are looked for only when there are none of writing
        Bench.faulty(2, "module a ( input x , input x ) ; endmodule module a ( ) `endmodule");
        Bench.faulty(1, "module a ( input x , input x ) ; endmodule `#");
        Bench.faulty(3, "module a ( input x , input x ) ; assert ( " + times(59, "(") + "`( x" + times(60, ")") + TAIL);
        Bench.faulty(1, "module a ( ) ; wire w ; assert ( q + 2'd1 ) ; endmodule `/*");
    }
}
