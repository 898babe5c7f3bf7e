/** Part 4, COST: what = 6 of promise 7. */
public final class CostTest {
    private static final String HEAD =
        "module m ( input p , input [3:0] q ) ; assert ( q * q ) ; endmodule "
        + "module a ( input [3:0] a , input [3:0] b , input c , input [7:0] d , output [3:0] w ) ; reg [3:0] r ; ";

    public static void main(String[] args) {
        operators();
        statements();
        others();
        most();
        Bench.done("CostTest");
    }

    private static void item(String item, int cost) {
        CircuitText x = Bench.right(HEAD + item + " endmodule");
        Bench.due("cost of " + item, Bench.module(x, 1, 6), cost);
        Bench.due("cost of the other module", Bench.module(x, 0, 6), 20);
    }

    private static void assign(String exp, int cost) {
        item("assign w = " + exp + " ;", cost);
    }

    /** An exp of width 1, whose own cost is looked at. */
    private static void one(String exp, int cost) {
        assign("{ 4 { " + exp + " } }", cost);
    }

    private static void operators() {
        assign("a", 0);
        assign("4'd1", 0);
        assign("( ( a ) )", 0);
        assign("~ a + b", 8);
        assign("c ? a : b", 4);
        assign("d ? a : b", 8);
        assign("a << c", 13);
        assign("a >> d", 20);
        assign("a * b", 16);
        assign("a - b", 4);
        assign("a & b ^ a | b", 12);
        assign("a + b * a", 20);
        assign("{ a [ 3 ] , d [ 2 : 0 ] }", 0);
        one("a [ c ]", 4);
        one("c [ d ]", 8);
        one("a [ a + b ]", 8);
        one("a [ 2'd1 ]", 4);
        one("! a && c", 5);
        one("a && d", 8);
        one("c || d", 8);
        one("a == b", 4);
        one("a <= b", 4);
        one("a != b", 4);
        one("a > b", 4);
        one("! a", 4);
        one("& d", 8);
        one("! & d", 9);
        one("! ~ d", 16);
        one("~ ! - ^ ~ d", 1 + 1 + 1 + 8 + 8);
        assign("~ - ~ a", 12);
        assign("c ? a : c ? b : a", 8);
        assign("( a == b ) ? a + b : a * b", 4 + 4 + 16 + 4);
        // it is counted as it is told, once, however often braces repeat it
        assign("{ 4 { ! a } }", 4);
    }

    private static void always(String statement, int cost) {
        item("assign w = a ; always @ ( posedge clock ) " + statement, cost);
    }

    private static void statements() {
        always("r <= a ;", 4);
        always("r [ 1 ] <= c ;", 1);
        always("r [ 2 : 1 ] <= 2'd1 ;", 2);
        always("r <= a + b ;", 8);
        always("r [ 0 ] <= a <= b ;", 5);
        always("begin end", 0);
        always("if ( c ) begin end", 1);
        always("if ( d ) r <= a ; else r <= b ;", 16);
        always("if ( a == b ) r <= a ;", 9);
        always("case ( d ) endcase", 0);
        always("case ( d ) default : r <= a ; endcase", 4);
        always("case ( d ) 8'd1 , 8'd2 : r <= a ; 8'd3 : begin end default : r <= b ; endcase", 32);
        always("case ( a + b ) 4'd1 : begin end endcase", 8);
    }

    private static void others() {
        item("assign w = a ; assert ( d ) ;", 8);
        item("assign w = a ; assert ( a == b ) ;", 5);
        item("assign w = a ; m i ( .p(c) , .q(a) ) ;", 0);
        item("assign w = a ; m i ( .p(a == b) , .q(a + b) ) ;", 8);
    }

    private static void most() {
        String wide = "module a ( input [63:0] x , input [35:0] y , input [13:0] z ) ; ";
        // 36 * 36 = 1296, and assert 36
        cost(wide + "assert ( y * y ) ; endmodule", 1332);
        cost(wide + "assert ( y * y ) ; assert ( y + y ) ; assert ( y + y ) ; assert ( z ) ; assert ( z [ 9 : 0 ] ) ; endmodule", 1500);
        cost(wide + "assert ( y * y ) ; assert ( y + y ) ; assert ( y + y ) ; assert ( z ) ; assert ( z [ 10 : 0 ] ) ; endmodule", 1501);
        cost(wide + "assert ( x * x ) ; endmodule", 1501);
        cost(wide + "assert ( x * x * x * x ) ; assert ( y ) ; endmodule", 1501);
        CircuitText x = Bench.right(wide + "assert ( x * x ) ; endmodule module b ( ) ; assert ( 2'd1 ) ; endmodule");
        Bench.due("cost of the next module", Bench.module(x, 1, 6), 2);
    }

    private static void cost(String text, int cost) {
        CircuitText x = Bench.right(text);
        Bench.due("cost of " + text, Bench.module(x, 0, 6), cost);
    }
}
