/** Promises 4 to 10: what is told of what was read. */
public final class TellTest {
    private static final String TEXT =
        "module m ( input i , output [1:0] o , output reg [2:0] r = 3'd5 ) ; assign o = 2'd1 ; endmodule\n"
        + "module top ( ) ; wire [1:0] w ; reg [63:0] s = 64'hfedcba9876543210 ; wire [2:0] v ; reg t ; wire [1:0] x ; wire [2:0] y ;\n"
        + "m one ( .i(t) , .o(w) , .r(v) ) ; m two$ ( .i(t) , .o(x) , .r(y) ) ; wire u ;\n"
        + "assign u = t ; always @ ( posedge clock ) t <= u ; always @ ( posedge clock ) begin end\n"
        + "assert ( t ) ; assert ( u ) ; assert ( w ) ; endmodule";

    public static void main(String[] args) {
        CircuitText x = Bench.right(TEXT);
        modules(x);
        names(x);
        beginnings(x);
        finding(x);
        wrongArguments(x);
        staying(x);
        replacing(x);
        Bench.done("TellTest");
    }

    private static void modules(CircuitText x) {
        Bench.due("count()", x.count(), 2);
        int[][] due = {
            {3, 3, 1, 0, 0, 0, 0, 7},
            {0, 9, 1, 2, 2, 3, 1 + 1 + 1 + 2, TEXT.indexOf("top")},
        };
        for (int m = 0; m < due.length; m++) {
            for (int what = 0; what < due[m].length; what++) {
                Bench.due("module(" + m + ", " + what + ")", Bench.module(x, m, what), due[m][what]);
            }
        }
    }

    private static void names(CircuitText x) {
        int[][] first = {{0, 1, -1}, {1, 2, -1}, {2, 3, -1}};
        int[][] second = {{3, 2, -1}, {4, 64, -1}, {3, 3, -1}, {4, 1, -1}, {3, 2, -1}, {3, 3, -1}, {5, 0, 0}, {5, 0, 0}, {3, 1, -1}};
        String[] firstPlaces = {"i , output", "o , output", "r = 3"};
        String[] secondPlaces = {"w ; reg", "s = 64", "v ; reg", "t ; wire", "x ; wire", "y ;", "one", "two", "u ;\n"};
        names(x, 0, first, firstPlaces);
        names(x, 1, second, secondPlaces);
    }

    private static void names(CircuitText x, int m, int[][] due, String[] places) {
        for (int k = 0; k < due.length; k++) {
            String name = "declared(" + m + ", " + k + ", ";
            Bench.due(name + "0)", Bench.declared(x, m, k, 0), due[k][0]);
            Bench.due(name + "1)", Bench.declared(x, m, k, 1), due[k][1]);
            Bench.due(name + "2)", Bench.declared(x, m, k, 2), TEXT.indexOf(places[k]));
            Bench.due(name + "3)", Bench.declared(x, m, k, 3), due[k][2]);
        }
        CircuitText y = Bench.right("module a ( ) ; endmodule module b ( ) ; endmodule module c ( ) ; a z ( ) ; b y ( ) ; endmodule");
        Bench.due("of which module", Bench.declared(y, 2, 0, 3), 0);
        Bench.due("of which module", Bench.declared(y, 2, 1, 3), 1);
    }

    private static void beginnings(CircuitText x) {
        Bench.due("of an input", Bench.beginning(x, 0, 0), 0);
        Bench.due("of an output", Bench.beginning(x, 0, 1), 0);
        Bench.due("of an output reg", Bench.beginning(x, 0, 2), 5);
        Bench.due("of a wire", Bench.beginning(x, 1, 0), 0);
        Bench.due("of a reg", Bench.beginning(x, 1, 1), 0xfedcba9876543210L);
        Bench.due("of a reg that is told none", Bench.beginning(x, 1, 3), 0);
        Bench.due("of an instance", Bench.beginning(x, 1, 6), 0);
    }

    private static void finding(CircuitText x) {
        Bench.due("find i", Bench.find(x, 0, "i"), 0);
        Bench.due("find r", Bench.find(x, 0, "r"), 2);
        Bench.due("find i in top", Bench.find(x, 1, "i"), -1);
        Bench.due("find w", Bench.find(x, 1, "w"), 0);
        Bench.due("find one", Bench.find(x, 1, "one"), 6);
        Bench.due("find two$", Bench.find(x, 1, "two$"), 7);
        Bench.due("find two", Bench.find(x, 1, "two"), -1);
        Bench.due("find two$$", Bench.find(x, 1, "two$$"), -1);
        Bench.due("find ' w'", Bench.find(x, 1, " w"), -1);
        Bench.due("find 'w '", Bench.find(x, 1, "w "), -1);
        Bench.due("find W", Bench.find(x, 1, "W"), -1);
        Bench.due("find the module", Bench.find(x, 1, "top"), -1);
        Bench.due("find a keyword", Bench.find(x, 1, "wire"), -1);
        Bench.due("find nothing", Bench.find(x, 1, ""), -1);
        Bench.due("find a byte above 127", Bench.find(x, 1, "\u00f7"), -1);
        Bench.due("find a long text", Bench.find(x, 1, "w".repeat(2000)), -1);
        Bench.due("find u", Bench.find(x, 1, "u"), 8);
        Bench.due("the tape is empty then", Bench.end(x, 1), Bench.ARGUMENT);
        Bench.due("fault() is that of read()", x.fault(), 0);
    }

    private static void wrongArguments(CircuitText x) {
        int[] outside = {-1, 2, Integer.MIN_VALUE, Integer.MAX_VALUE};
        for (int m : outside) {
            Bench.due("module(" + m + ", 0)", Bench.module(x, m, 0), Bench.INDEX);
            Bench.due("module(" + m + ", 8)", Bench.module(x, m, 8), Bench.INDEX);
            Bench.due("declared(" + m + ", 0, 0)", Bench.declared(x, m, 0, 0), Bench.INDEX);
            Bench.due("declared(" + m + ", 0, 4)", Bench.declared(x, m, 0, 4), Bench.INDEX);
            Bench.due("beginning(" + m + ", 0)", Bench.beginning(x, m, 0), Bench.INDEX);
            Bench.due("find(" + m + ")", Bench.find(x, m, ""), Bench.INDEX);
        }
        int[] noName = {-1, 3, Integer.MIN_VALUE, Integer.MAX_VALUE};
        for (int k : noName) {
            Bench.due("declared(0, " + k + ", 0)", Bench.declared(x, 0, k, 0), Bench.INDEX);
            Bench.due("declared(0, " + k + ", -1)", Bench.declared(x, 0, k, -1), Bench.INDEX);
            Bench.due("beginning(0, " + k + ")", Bench.beginning(x, 0, k), Bench.INDEX);
        }
        for (int what : new int[] {-1, 8, Integer.MIN_VALUE, Integer.MAX_VALUE}) {
            Bench.due("module(0, " + what + ")", Bench.module(x, 0, what), Bench.ARGUMENT);
        }
        for (int what : new int[] {-1, 4, Integer.MIN_VALUE, Integer.MAX_VALUE}) {
            Bench.due("declared(0, 0, " + what + ")", Bench.declared(x, 0, 0, what), Bench.ARGUMENT);
        }
    }

    /** After a fault, of writing or of meaning, the modules stay; so does what is found of them. */
    private static void staying(CircuitText x) {
        String[] wrong = {"", "module", "module m ( ) ; # endmodule", "module z ( input w , input w ) ; endmodule",
            "module z ( ) ; endmodule module y ( output o ) ; endmodule"};
        int[] places = {0, 6, 15, 27, 43};
        int[] codes = {2, 2, 1, 21, 33};
        for (int i = 0; i < wrong.length; i++) {
            Bench.put(x, wrong[i]);
            Bench.due("read() of " + wrong[i], x.read(), places[i]);
            Bench.due("fault() of " + wrong[i], x.fault(), codes[i]);
            Bench.due("the tape is empty then", Bench.end(x, 1), Bench.ARGUMENT);
            modules(x);
            Bench.due("find two$", Bench.find(x, 1, "two$"), 7);
            Bench.due("find() leaves fault()", x.fault(), codes[i]);
        }
    }

    private static void replacing(CircuitText x) {
        // earlier modules of another read are not there for the next text
        Bench.put(x, "module top ( ) ; m one ( ) ; endmodule");
        Bench.due("read()", x.read(), 17);
        Bench.due("fault()", x.fault(), 22);
        Bench.put(x, "module top ( input now ) ; endmodule");
        Bench.due("read()", x.read(), CircuitText.NONE);
        Bench.due("fault()", x.fault(), 0);
        Bench.due("count()", x.count(), 1);
        Bench.due("module(1, 0)", Bench.module(x, 1, 0), Bench.INDEX);
        Bench.due("find now", Bench.find(x, 0, "now"), 0);
        Bench.due("find w", Bench.find(x, 0, "w"), -1);
    }
}
