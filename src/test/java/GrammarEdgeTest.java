/** The boundary cases of part 2, GRAMMAR, but for FAULT 3 (DepthEdgeTest); each method's comment is the sentence it looks at. */
public final class GrammarEdgeTest {
    private static final String M = "module m ( input p , input q ) ; endmodule ";

    public static void main(String[] args) {
        atLeastOneModule();
        ports();
        ranges();
        beginnings();
        items();
        links();
        blocks();
        elses();
        cases();
        parts();
        unaryOperators();
        conditions();
        braces();
        indexes();
        tapesEnd();
        whichIsFirst();
        atOnePlace();
        meaningLast();
        Bench.done("GrammarEdgeTest");
    }

    /** "design = module { module }." */
    private static void atLeastOneModule() {
        Bench.holds(2, "`");
        Bench.holds(2, "  `");
        Bench.due("one module", Bench.right("module a ( ) ; endmodule").count(), 1);
        Bench.due("two modules", Bench.right("module a ( ) ; endmodule module b ( ) ; endmodule").count(), 2);
        StringBuilder many = new StringBuilder();
        for (int i = 0; i < 400; i++) {
            many.append("module n").append(i).append("();endmodule ");
        }
        Bench.due("many modules", Bench.right(many.toString()).count(), 400);
        Bench.holds(2, "module a ( ) ; endmodule `;");
        Bench.holds(2, "module a ( ) ; endmodule `endmodule");
        Bench.holds(2, "module a ( ) ; `module");
    }

    /** "( [ port { , port } ] )": none, one, two, many. */
    private static void ports() {
        Bench.due("no port", Bench.module(Bench.right("module a ( ) ; endmodule"), 0, 0), 0);
        Bench.due("one port", Bench.module(Bench.right("module a ( input x ) ; endmodule"), 0, 0), 1);
        Bench.due("two ports", Bench.module(Bench.right("module a ( input x , input y ) ; endmodule"), 0, 0), 2);
        StringBuilder many = new StringBuilder("module a(input p");
        for (int i = 0; i < 500; i++) {
            many.append(",output reg p").append(i);
        }
        Bench.due("many ports", Bench.module(Bench.right(many + ");endmodule"), 0, 0), 501);
        Bench.holds(2, "module a ( `, ) ; endmodule");
        Bench.holds(2, "module a ( input x , `) ; endmodule");
        Bench.holds(2, "module a ( `, input x ) ; endmodule");
        Bench.holds(2, "module a ( input x , `, input y ) ; endmodule");
        Bench.holds(2, "module a ( input x `input y ) ; endmodule");
        Bench.holds(2, "module a ( input `) ; endmodule");
        Bench.holds(2, "module a ( output reg `) ; endmodule");
        Bench.holds(2, "module a ( `reg x ) ; endmodule");
        Bench.holds(2, "module a ( input `reg x ) ; endmodule");
        Bench.holds(2, "module a `; endmodule");
    }

    /** "[ range ]", "range = [ PLAIN : PLAIN ]": none or one, before the NAME. */
    private static void ranges() {
        for (String head : new String[] {"( input ", "( output reg ", "( ) ; reg "}) {
            String tail = head.startsWith("( )") ? " ; endmodule" : " ) ; endmodule";
            Bench.holds(0, "module a " + head + "x" + tail);
            Bench.holds(0, "module a " + head + "[ 1 : 0 ] x" + tail);
            Bench.holds(2, "module a " + head + "[ 1 : 0 ] `[ 1 : 0 ] x" + tail);
            Bench.holds(2, "module a " + head + "x `[ 1 : 0 ]" + tail);
            Bench.holds(2, "module a " + head + "[ `] x" + tail);
            Bench.holds(2, "module a " + head + "[ 1 `] x" + tail);
            Bench.holds(2, "module a " + head + "[ `: 0 ] x" + tail);
            Bench.holds(2, "module a " + head + "[ 1 : `] x" + tail);
            Bench.holds(2, "module a " + head + "[ 1 : 0 `: 0 ] x" + tail);
            Bench.holds(2, "module a " + head + "[ `1'd1 : 0 ] x" + tail);
            Bench.holds(2, "module a " + head + "[ 1 : `1'd0 ] x" + tail);
            Bench.holds(2, "module a " + head + "[ 1 : 0 `x" + tail);
        }
    }

    /** "[ = SIZED ]" of registers alone. */
    private static void beginnings() {
        Bench.holds(0, "module a ( output reg x ) ; reg y ; endmodule");
        Bench.holds(0, "module a ( output reg x = 1'd1 ) ; reg y = 1'd1 ; endmodule");
        Bench.holds(2, "module a ( output reg x = 1'd1 `= 1'd1 ) ; endmodule");
        Bench.holds(2, "module a ( ) ; reg y = 1'd1 `= 1'd1 ; endmodule");
        Bench.holds(2, "module a ( output reg x = `) ; endmodule");
        Bench.holds(2, "module a ( ) ; reg y = `; endmodule");
        Bench.holds(2, "module a ( ) ; reg y = `1 ; endmodule");
        Bench.holds(2, "module a ( ) ; reg y = `- 1'd1 ; endmodule");
        Bench.holds(2, "module a ( ) ; reg y = `( 1'd1 ) ; endmodule");
        Bench.holds(2, "module a ( ) ; reg y `1'd1 ; endmodule");
        Bench.holds(2, "module a ( input x `= 1'd1 ) ; endmodule");
        Bench.holds(2, "module a ( output x `= 1'd1 ) ; endmodule");
        Bench.holds(2, "module a ( ) ; wire x `= 1'd1 ; endmodule");
    }

    /** "{ item }": none, one, two, many; each with its ; but for always. */
    private static void items() {
        String[] items = {"wire w ;", "reg w ;", "assign w = x ;", "m w ( ) ;", "assert ( x ) ;"};
        for (String item : items) {
            String less = item.substring(0, item.length() - 1);
            Bench.holds(2, "module a ( input x ) ; " + less + "`endmodule");
            Bench.holds(2, "module a ( input x ) ; " + item + " `; endmodule");
        }
        Bench.holds(0, "module a ( ) ; endmodule");
        Bench.holds(0, "module a ( ) ; reg r ; endmodule");
        Bench.holds(0, "module a ( ) ; reg r ; reg s ; endmodule");
        Bench.holds(0, "module a ( ) ; reg r ; " + "assert ( r ) ; ".repeat(600) + "endmodule");
        Bench.holds(0, "module a ( ) ; reg r ; always @ ( posedge clock ) r <= r ; endmodule");
        Bench.holds(2, "module a ( ) ; reg r ; always @ ( posedge clock ) r <= r ; `; endmodule");
        Bench.holds(2, "module a ( ) ; always @ ( posedge clock ) `endmodule");
        Bench.holds(2, "module a ( ) ; reg r ; always @ ( posedge clock ) r <= r ; r `<= r ; endmodule");
    }

    /** "( [ link { , link } ] )": none, one, two. */
    private static void links() {
        Bench.holds(0, "module m ( ) ; endmodule module a ( ) ; m i ( ) ; endmodule");
        Bench.holds(0, "module m ( input p ) ; endmodule module a ( input x ) ; m i ( . p ( x ) ) ; endmodule");
        String a = M + "module a ( input x ) ; m i ( ";
        Bench.holds(0, a + ". p ( x ) , . q ( x ) ) ; endmodule");
        Bench.holds(2, a + "`, ) ; endmodule");
        Bench.holds(2, a + ". p ( x ) , `) ; endmodule");
        Bench.holds(2, a + "`, . p ( x ) ) ; endmodule");
        Bench.holds(2, a + ". p ( x ) `. q ( x ) ) ; endmodule");
        Bench.holds(2, a + ". p ( `) , . q ( x ) ) ; endmodule");
        Bench.holds(2, a + ". p ( x `, x ) ) ; endmodule");
        Bench.holds(2, a + ". `( x ) ) ; endmodule");
        Bench.holds(2, a + ". p `) ; endmodule");
        Bench.holds(2, a + "`x , x ) ; endmodule");
    }

    private static void always(int code, String statement) {
        Bench.holds(code, "module a ( input x ) ; reg [ 3 : 0 ] r ; always @ ( posedge clock ) " + statement + " endmodule");
    }

    /** "begin { statement } end": none, one, two, many. */
    private static void blocks() {
        always(0, "begin end");
        always(0, "begin r <= r ; end");
        always(0, "begin r <= r ; r <= r ; end");
        always(0, "begin " + "r <= r ; ".repeat(600) + "end");
        always(2, "begin `; end");
        always(2, "begin r <= r `end");
        always(2, "begin end `end");
        always(2, "begin end `begin end");
        always(2, "begin begin end `endmodule");
    }

    /** "if ( exp ) statement [ else statement ]": no else, one, and never two for one if. */
    private static void elses() {
        always(0, "if ( x ) r <= r ;");
        always(0, "if ( x ) r <= r ; else r <= r ;");
        always(2, "if ( x ) r <= r ; else r <= r ; `else r <= r ;");
        always(0, "if ( x ) if ( x ) r <= r ; else r <= r ; else r <= r ;");
        always(2, "if ( x ) `else r <= r ;");
        always(2, "if ( x ) r <= r ; else `endmodule");
        always(2, "if ( x ) r <= r ; else `else r <= r ;");
        always(2, "`else r <= r ;");
        always(2, "r <= r ; `else r <= r ;");
        always(2, "begin end `else r <= r ;");
        always(2, "case ( x ) endcase `else r <= r ;");
        always(2, "if ( `) r <= r ;");
        always(2, "if ( x ) `; else r <= r ;");
    }

    /** "case ( exp ) { SIZED { , SIZED } : statement } [ default : statement ] endcase". */
    private static void cases() {
        always(0, "case ( x ) endcase");
        always(0, "case ( x ) 1'd0 : r <= r ; endcase");
        always(0, "case ( x ) 1'd0 : r <= r ; 1'd1 : r <= r ; endcase");
        always(0, "case ( x ) 1'd0 , 1'd1 : r <= r ; endcase");
        always(0, "case ( x ) 1'd0" + " , 1'd1".repeat(300) + " : r <= r ; endcase");
        always(0, "case ( x ) " + "1'd0 : r <= r ; ".repeat(300) + " endcase");
        always(0, "case ( x ) default : r <= r ; endcase");
        always(0, "case ( x ) 1'd0 : r <= r ; default : r <= r ; endcase");
        always(2, "case ( x ) default : r <= r ; `default : r <= r ; endcase");
        always(2, "case ( x ) default : r <= r ; `1'd0 : r <= r ; endcase");
        always(2, "case ( x ) `: r <= r ; endcase");
        always(2, "case ( x ) `, 1'd0 : r <= r ; endcase");
        always(2, "case ( x ) 1'd0 , `: r <= r ; endcase");
        always(2, "case ( x ) 1'd0 `1'd1 : r <= r ; endcase");
        always(2, "case ( x ) 1'd0 : `endcase");
        always(2, "case ( x ) 1'd0 : `1'd1 : r <= r ; endcase");
        always(2, "case ( x ) 1'd0 : r <= r ; `r <= r ; endcase");
        always(2, "case ( x ) default : `endcase");
        always(2, "case ( x ) 1'd0 , `default : r <= r ; endcase");
        always(2, "case ( x ) `0 : r <= r ; endcase");
        always(2, "case ( x ) `x : r <= r ; endcase");
        always(2, "case ( `) endcase");
    }

    /** "NAME [ part ] <= exp", "part = [ PLAIN ] or [ PLAIN : PLAIN ]": none or one, and no exp in it. */
    private static void parts() {
        always(0, "r <= r ;");
        always(0, "r [ 0 ] <= x ;");
        always(0, "r [ 1 : 0 ] <= 2'd0 ;");
        always(2, "r [ 0 ] `[ 0 ] <= x ;");
        always(2, "r [ `] <= x ;");
        always(2, "r [ 0 : `] <= x ;");
        always(2, "r [ `: 0 ] <= x ;");
        always(2, "r [ 1 : 0 `: 0 ] <= x ;");
        always(2, "r [ `x ] <= x ;");
        always(2, "r [ `1'd0 ] <= x ;");
        always(2, "r [ `( 0 ) ] <= x ;");
        always(2, "r [ 0 `+ x ] <= x ;");
        always(2, "r <= r `, r ;");
        always(2, "`{ r } <= r ;");
        exp(0, "y [ 0 ]");
        exp(0, "y [ 1 : 0 ]");
        exp(2, "y [ 0 ] `[ 0 ]");
        exp(2, "y [ 0 : `x ]");
        exp(2, "y [ 0 : 0 `: 0 ]");
        exp(2, "y [ 0 : `]");
    }

    private static void exp(int code, String exp) {
        Bench.holds(code, "module a ( input x , input [ 1 : 0 ] y ) ; assert ( " + exp + " ) ; endmodule");
    }

    /** "any number of ~ ! - & | ^ before a primary": none, one, two, many. */
    private static void unaryOperators() {
        exp(0, "x");
        for (String one : new String[] {"~", "!", "-", "&", "|", "^"}) {
            exp(0, one + " x");
            exp(0, one + " " + one + " x");
            exp(0, (one + " ").repeat(1000) + "x");
            exp(0, "x + " + one + " x");
            exp(2, "( " + one + " `)");
            for (String other : new String[] {"~", "!", "-", "&", "|", "^"}) {
                exp(0, one + " " + other + " x");
            }
        }
        for (String none : new String[] {"+", "*", "<", "<=", "&&", "||", "=", "==", "!=", "?", ":", "@", "<<"}) {
            exp(2, "`" + none + " x");
            exp(2, "~ `" + none + " x");
        }
        exp(2, "x `~ x");
        exp(2, "x `! x");
    }

    /** "binary ? exp : exp": both of its exps, each of which may be another. */
    private static void conditions() {
        exp(0, "x ? x : x");
        exp(0, "x ? x ? x : x : x ? x : x");
        exp(2, "x ? `: x");
        exp(2, "( x ? x : `)");
        exp(2, "( x ? x `)");
        exp(2, "x ? x : x `: x");
        exp(2, "`? x : x");
        exp(2, "( x ? x ? x : x `)");
    }

    /** "{ exp { , exp } } | { PLAIN { exp } }, with braces, the inner ones around one exp". */
    private static void braces() {
        exp(0, "{ x }");
        exp(0, "{ x , x }");
        exp(0, "{ x" + " , x".repeat(63) + " }");
        exp(0, "{ 2 { x } }");
        exp(2, "{ `}");
        exp(2, "{ `, x }");
        exp(2, "{ x , `}");
        exp(2, "{ x `x }");
        exp(2, "{ 2 { `} }");
        exp(2, "{ 2 { x `, x } }");
        exp(2, "{ 2 { x } `, x }");
        exp(2, "{ x , `2 { x } }");
        exp(2, "{ 2 { x } `{ x } }");
        exp(2, "{ 2 `( x ) }");
        exp(2, "{ 2 `}");
        exp(2, "{ 2'd2 `{ x } }");
        exp(0, "{ 2 { { x , x } } }");
        exp(0, "{ { 2 { x } } , x }");
    }

    /** "NAME [ exp ] with square brackets (exp beginning with no PLAIN)", and of a NAME alone. */
    private static void indexes() {
        exp(0, "y [ x ]");
        exp(0, "y [ 1'd0 ]");
        exp(0, "y [ ( x ) ]");
        exp(0, "y [ x ? x : x ]");
        exp(0, "y [ y [ x ] ]");
        exp(2, "y [ `]");
        exp(2, "y [ 0 `+ x ]");
        exp(2, "y [ x + `0 ]");
        exp(2, "y [ x `: 0 ]");
        exp(2, "y [ x `, x ]");
        exp(2, "y [ x ] `[ x ]");
        exp(2, "( y ) `[ x ]");
        exp(2, "2'd1 `[ 0 ]");
        exp(2, "{ y } `[ 0 ]");
        exp(2, "`0");
        exp(2, "( `0 )");
    }

    private static final String ALL = "module m ( input p , output [ 1 : 0 ] o , output reg q = 1'd0 ) ; assign o = { 2 { p } } ; endmodule "
        + "module a ( input x ) ; wire [ 1 : 0 ] w ; wire v ; reg [ 1 : 0 ] r = 2'd1 ; m i ( . p ( x ) , . o ( w ) , . q ( v ) ) ; "
        + "assert ( ~ x ? r [ x ] : { x , x } == r [ 1 : 0 ] ) ; always @ ( posedge clock ) begin if ( x ) r <= r ; else r [ 0 ] <= ( x ) ; "
        + "case ( r ) 2'd0 , 2'd1 : r <= w ; default : r [ 1 : 0 ] <= r + w ; endcase end endmodule";

    /** "or at the tape's end (at its length)": behind each token, and whatever blanks and comments stand behind it. */
    private static void tapesEnd() {
        String[] tokens = ALL.split(" ");
        String text = "";
        for (int i = 0; i < tokens.length; i++) {
            boolean whole = i > 0 && tokens[i - 1].equals("endmodule");
            for (String rest : new String[] {"", " ", "\n\n", "//", "/**/ ", " // x"}) {
                Bench.holds(whole ? 0 : 2, text + rest + "`");
            }
            text = text + (i == 0 ? "" : " ") + tokens[i];
        }
        Bench.right(ALL);
        // the length counts, not where the latest token ends
        Bench.holds(2, "module" + " ".repeat(1000) + "`");
        Bench.holds(2, " ".repeat(1000) + "`");
    }

    private static final String DEEP = "module a ( input x ) ; assert ( " + "(".repeat(59);

    /** "That of 1, 2 and 3 which is first on the tape counts". */
    private static void whichIsFirst() {
        Bench.holds(1, DEEP + "`# ( x x");
        Bench.holds(1, DEEP + "`# x x (");
        Bench.holds(2, DEEP + "x `x # (");
        Bench.holds(2, DEEP + "x `x ( #");
        Bench.holds(3, DEEP + "`( # x x");
        Bench.holds(3, DEEP + "`( x x #");
        Bench.holds(3, DEEP + "`(#");
        Bench.holds(3, DEEP + "`(");
        Bench.holds(3, DEEP + "`( /*");
        Bench.holds(2, "module a `a /*");
        Bench.holds(1, "module a `/* a");
        Bench.holds(1, "module a ( ) ; endmodule `65536");
        Bench.holds(2, "module a ( ) ; endmodule `65535 65536");
    }

    /** "(at one place 1 before 2, and 2 before 3)". */
    private static void atOnePlace() {
        // nothing of the kind may stand there, and it is no token either
        Bench.holds(1, "module `65536 ( ) ; endmodule");
        Bench.holds(2, "module `65535 ( ) ; endmodule");
        Bench.holds(1, "module a ( ) ; endmodule `#");
        Bench.holds(1, "module a ( ) ; endmodule `/");
        Bench.holds(1, "`#");
        Bench.holds(1, "`0'd0");
        // where more than 60 would be open, but it can't stand there
        Bench.holds(2, DEEP + "x `( x");
        Bench.holds(2, DEEP + "x `{ x");
        Bench.holds(2, DEEP + "1'd1 `[ 0 ]");
        Bench.holds(2, DEEP + "`[ 0 ]");
        Bench.holds(2, DEEP + "`? x : x");
        Bench.holds(2, DEEP + "x + `? x : x");
        Bench.holds(2, DEEP + "`begin");
        Bench.holds(2, DEEP + "`if");
        Bench.holds(2, DEEP + "x `case");
        always(2, "begin ".repeat(60) + "`(");
        always(2, "begin ".repeat(60) + "r `(");
        always(2, "begin ".repeat(60) + "r `begin");
        // at 60 as at 59
        Bench.holds(2, DEEP.substring(0, DEEP.length() - 1) + "x `( x");
    }

    /** "all others are looked for only when the whole tape has none of these". */
    private static void meaningLast() {
        String[] wrong = {"module a ( ) ; endmodule module a ( ) ; endmodule ", "module a ( input x , input x ) ; endmodule ",
            "module a ( ) ; assert ( q ) ; endmodule ", "module a ( input [ 64 : 0 ] x ) ; endmodule ", "module a ( ) ; wire w ; endmodule ",
            "module a ( ) ; q i ( ) ; endmodule "};
        for (String text : wrong) {
            Bench.holds(1, text + "`#");
            Bench.holds(1, text + "`/*");
            Bench.holds(2, text + "`a");
            Bench.holds(2, text + "module`");
            Bench.holds(3, text + "module z ( ) ; assert ( " + "(".repeat(59) + "`(");
        }
    }
}
