/** The boundary cases of part 3, MEANING, faults 20 to 25 and 31 to 33; each method's comment is the sentence it looks at. */
public final class MeaningEdgeTest {
    /** All that a module may declare; i is an instance. */
    private static final String ALL = "module m ( ) ; endmodule module n ( input p , output o , output reg q ) ; assign o = p ; endmodule "
        + "module a ( input in , output out , output reg oreg ) ; wire w ; reg r ; m i ( ) ; ";
    private static final String DRIVE = " assign out = in ; assign w = in ; endmodule";
    private static final String ALWAYS = "always @ ( posedge clock ) ";

    public static void main(String[] args) {
        earlierModule();
        declaredAlready();
        namesOfOneModule();
        usedBehind();
        inExp();
        beforeAssign();
        beforeSetting();
        ofAnInstance();
        noSuchPort();
        linkedAlready();
        notLinked();
        outputLinks();
        inputLinks();
        drivenTwice();
        setInTwo();
        notDriven();
        Bench.done("MeaningEdgeTest");
    }

    /** "20 at a module's NAME: an earlier module has it." */
    private static void earlierModule() {
        Bench.holds(0, "module a ( ) ; endmodule");
        Bench.holds(20, "module a ( ) ; endmodule module `a ( ) ; endmodule");
        Bench.holds(20, "module a ( ) ; endmodule module b ( ) ; endmodule module `a ( ) ; endmodule");
        Bench.holds(20, "module a ( ) ; endmodule module b ( ) ; endmodule module `b ( ) ; endmodule");
        Bench.holds(20, "module a ( ) ; endmodule module `a ( ) ; endmodule module a ( ) ; endmodule");
        // only modules' names: neither what they declare, nor a name that differs
        Bench.holds(0, "module a ( input b ) ; wire c ; assign c = b ; endmodule module b ( ) ; endmodule module c ( ) ; endmodule");
        Bench.holds(0, "module a ( ) ; endmodule module A ( ) ; endmodule module aa ( ) ; endmodule module a_ ( ) ; endmodule");
        // only earlier ones of this text
        CircuitText x = Bench.right("module a ( ) ; endmodule");
        Bench.put(x, "module a ( ) ; endmodule");
        Bench.due("read() of the same text again", x.read(), CircuitText.NONE);
    }

    /** "21 at a declared NAME: its module has it already": each kind behind each kind. */
    private static void declaredAlready() {
        String[] ports = {"input %", "output %", "output reg %"};
        String[] items = {"wire % ;", "reg % ;", "m % ( ) ;"};
        String front = "module m ( ) ; endmodule module a ( ";
        for (String first : ports) {
            for (String second : ports) {
                Bench.holds(21, front + first.replace("%", "z") + " , " + second.replace("%", "`z") + " ) ; endmodule");
            }
            for (String second : items) {
                Bench.holds(21, front + first.replace("%", "z") + " ) ; " + second.replace("%", "`z") + " endmodule");
            }
        }
        for (String first : items) {
            for (String second : items) {
                Bench.holds(21, front + ") ; " + first.replace("%", "z") + " " + second.replace("%", "`z") + " endmodule");
            }
        }
        // a fault at the second of three, and at the NAME, not at the keyword or range
        Bench.holds(21, "module a ( input x , input `x , input x ) ; endmodule");
        Bench.holds(21, "module a ( input x , output reg [ 3 : 0 ] `x = 4'd1 ) ; endmodule");
    }

    /** "A module's names are its ports, wires, registers .. and instances": the same ones may stand in another module. */
    private static void namesOfOneModule() {
        Bench.holds(0, "module a ( input x ) ; reg y ; endmodule module b ( input x ) ; reg y ; endmodule");
        Bench.holds(0, "module a ( input a ) ; endmodule");
        Bench.holds(0, "module a ( ) ; endmodule module b ( ) ; a a ( ) ; a b ( ) ; endmodule");
        Bench.holds(22, "module a ( input x ) ; endmodule module b ( ) ; assert ( `x ) ; endmodule");
        Bench.holds(0, "module a ( input x ) ; assert ( x ) ; endmodule module b ( output x ) ; assign x = 1'd0 ; endmodule");
        Bench.holds(22, "module a ( output x ) ; assign x = 1'd0 ; endmodule module b ( input x ) ; assign `x = 1'd0 ; endmodule");
    }

    /** "A name can be used behind where it is declared." */
    private static void usedBehind() {
        Bench.holds(0, "module a ( ) ; reg r ; assert ( r ) ; endmodule");
        Bench.holds(22, "module a ( ) ; assert ( `r ) ; reg r ; endmodule");
        Bench.holds(0, "module a ( ) ; wire w ; assign w = w ; endmodule");
        Bench.holds(22, "module a ( ) ; assign `w = w ; wire w ; endmodule");
        Bench.holds(22, "module a ( ) ; reg s ; " + ALWAYS + "`r <= s ; reg r ; endmodule");
        Bench.holds(22, "module a ( ) ; reg s ; " + ALWAYS + "s <= `r ; reg r ; endmodule");
        Bench.holds(22, "module a ( ) ; `b i ( ) ; endmodule module b ( ) ; endmodule");
        Bench.holds(22, "module a ( ) ; `a i ( ) ; endmodule");
        Bench.holds(0, "module b ( ) ; endmodule module a ( ) ; b i ( ) ; endmodule");
    }

    /** "in exp a port, wire or register". */
    private static void inExp() {
        for (String right : new String[] {"in", "out", "oreg", "w", "r"}) {
            Bench.holds(0, ALL + "assert ( " + right + " ) ;" + DRIVE);
            Bench.holds(0, ALL + "assert ( " + right + " [ 0 ] + " + right + " [ " + right + " ] ) ;" + DRIVE);
        }
        for (String wrong : new String[] {"i", "m", "n", "a", "z", "p", "inn", "In"}) {
            Bench.holds(22, ALL + "assert ( `" + wrong + " ) ;" + DRIVE);
            Bench.holds(22, ALL + "assert ( r [ `" + wrong + " ] ) ;" + DRIVE);
            Bench.holds(22, ALL + "assert ( `" + wrong + " [ 0 ] ) ;" + DRIVE);
            Bench.holds(22, ALL + "assert ( { r , ~ ( `" + wrong + " ) } ) ;" + DRIVE);
            Bench.holds(22, ALL + "assert ( r ? r : `" + wrong + " ) ;" + DRIVE);
            Bench.holds(22, ALL + ALWAYS + "r <= `" + wrong + " ;" + DRIVE);
            Bench.holds(22, ALL + ALWAYS + "if ( `" + wrong + " ) r <= r ;" + DRIVE);
            Bench.holds(22, ALL + ALWAYS + "case ( `" + wrong + " ) endcase" + DRIVE);
            Bench.holds(22, ALL + "n k ( . p ( `" + wrong + " ) ) ;" + DRIVE);
            Bench.holds(22, ALL + "assign w = `" + wrong + " ; assign out = in ; endmodule");
        }
    }

    /** "before = of assign a driven one": "a DRIVEN one is a wire or an output that is no register". */
    private static void beforeAssign() {
        Bench.holds(0, ALL + "assign w = in ; assign out = in ; endmodule");
        for (String wrong : new String[] {"in", "oreg", "r", "i", "m", "a", "z"}) {
            Bench.holds(22, ALL + "assign `" + wrong + " = in ;" + DRIVE);
        }
    }

    /** "before <= a register": "registers (reg, output reg)". */
    private static void beforeSetting() {
        Bench.holds(0, ALL + ALWAYS + "begin r <= in ; oreg <= in ; end" + DRIVE);
        for (String wrong : new String[] {"in", "out", "w", "i", "m", "a", "z"}) {
            Bench.holds(22, ALL + ALWAYS + "`" + wrong + " <= in ;" + DRIVE);
            Bench.holds(22, ALL + ALWAYS + "`" + wrong + " [ 0 ] <= in ;" + DRIVE);
        }
    }

    /** "of an instance, first, an earlier module". */
    private static void ofAnInstance() {
        Bench.holds(0, ALL + "m k ( ) ;" + DRIVE);
        for (String wrong : new String[] {"in", "out", "oreg", "w", "r", "i", "a", "z", "mm", "M"}) {
            Bench.holds(22, ALL + "`" + wrong + " k ( ) ;" + DRIVE);
        }
        Bench.holds(22, "module a ( ) ; `b k ( ) ; endmodule");
    }

    private static void links(int code, String links) {
        Bench.holds(code, "module n ( input p , output o , output reg q ) ; wire hid ; assign hid = p ; reg reg1 ; assign o = p ; endmodule "
            + "module a ( input x , input y ) ; wire u ; wire v ; wire s ; wire t ; n k ( " + links + " ) ; assign s = x ; assign t = x ; endmodule");
    }

    /** "23 at a link's NAME: the module has no such port". */
    private static void noSuchPort() {
        links(0, ". p ( x ) , . o ( u ) , . q ( v )");
        for (String wrong : new String[] {"hid", "reg1", "n", "k", "a", "x", "u", "z", "P", "pp"}) {
            links(23, ". `" + wrong + " ( x ) , . p ( x ) , . o ( u ) , . q ( v )");
            links(23, ". p ( x ) , . o ( u ) , . q ( v ) , . `" + wrong + " ( x )");
        }
        Bench.holds(23, "module m ( ) ; endmodule module a ( input x ) ; m k ( . `x ( x ) ) ; endmodule");
    }

    /** "or it was linked already": a second time by the same instance, and in any order. */
    private static void linkedAlready() {
        links(0, ". q ( v ) , . o ( u ) , . p ( x )");
        links(23, ". p ( x ) , . `p ( x ) , . o ( u ) , . q ( v )");
        links(23, ". p ( x ) , . o ( u ) , . q ( v ) , . `p ( y )");
        links(23, ". p ( x ) , . o ( u ) , . q ( v ) , . `o ( v )");
        links(23, ". p ( x ) , . o ( u ) , . q ( v ) , . `q ( v )");
        String m = "module m ( input p ) ; endmodule module a ( input x ) ; ";
        Bench.holds(0, m + "m k ( . p ( x ) ) ; m l ( . p ( x ) ) ; m j ( . p ( x ) ) ; endmodule");
        Bench.holds(23, m + "m k ( . p ( x ) ) ; m l ( . p ( x ) , . `p ( x ) ) ; endmodule");
        // also of another module's instances, one after the other
        Bench.holds(0, m + "m k ( . p ( x ) ) ; endmodule module b ( input x ) ; m k ( . p ( x ) ) ; a l ( . x ( x ) ) ; endmodule");
    }

    /** "24 at an instance's own NAME: a port is not linked (met at its ;)". */
    private static void notLinked() {
        String front = "module n ( input p , input q , input s ) ; endmodule module a ( input x ) ; ";
        Bench.holds(0, front + "n k ( . p ( x ) , . q ( x ) , . s ( x ) ) ; endmodule");
        Bench.holds(24, front + "n `k ( . p ( x ) , . q ( x ) ) ; endmodule");
        Bench.holds(24, front + "n `k ( . p ( x ) , . s ( x ) ) ; endmodule");
        Bench.holds(24, front + "n `k ( . q ( x ) , . s ( x ) ) ; endmodule");
        Bench.holds(24, front + "n `k ( . q ( x ) ) ; endmodule");
        Bench.holds(24, front + "n `k ( ) ; endmodule");
        Bench.holds(0, "module n ( ) ; endmodule module a ( ) ; n k ( ) ; endmodule");
        Bench.holds(24, "module n ( input p ) ; endmodule module a ( ) ; n `k ( ) ; endmodule");
        // a complete one before it links nothing for it
        Bench.holds(24, front + "n k ( . p ( x ) , . q ( x ) , . s ( x ) ) ; n `l ( . p ( x ) , . q ( x ) ) ; endmodule");
        Bench.holds(24, "module n ( output p ) ; assign p = 1'd0 ; endmodule module a ( ) ; n `k ( ) ; endmodule");
        Bench.holds(24, "module n ( output reg p ) ; endmodule module a ( ) ; n `k ( ) ; endmodule");
    }

    /** "25 at the first token of a link's exp: the port is an output, and exp is no NAME alone (without parentheses) of a driven one." */
    private static void outputLinks() {
        links(0, ". p ( x ) , . o ( u ) , . q ( v )");
        String[] wrong = {"`x", "`( u )", "`u [ 0 ]", "`u [ 0 : 0 ]", "`u [ x ]", "`{ u }", "`{ 1 { u } }", "`~ u", "`- u", "`! u", "`& u", "`u + u",
            "`u | u", "`u == u", "`x ? u : u", "`u ? u : u", "`1'd0", "`( ( u ) )", "`u << x"};
        for (String exp : wrong) {
            links(25, ". p ( x ) , . o ( " + exp + " ) , . q ( v )");
            links(25, ". p ( x ) , . o ( u ) , . q ( " + exp.replace('u', 'v') + " )");
        }
        Bench.holds(25, ALL + "n k ( . o ( `in ) ) ;" + DRIVE);
        Bench.holds(25, ALL + "n k ( . o ( `r ) ) ;" + DRIVE);
        Bench.holds(25, ALL + "n k ( . o ( `oreg ) ) ;" + DRIVE);
        Bench.holds(0, ALL + "n k ( . p ( in ) , . o ( out ) , . q ( w ) ) ; endmodule");
        Bench.holds(22, ALL + "n k ( . o ( `i ) ) ;" + DRIVE);
    }

    /** Any exp goes to an input, also that of a name that is driven, which it does not drive. */
    private static void inputLinks() {
        for (String exp : new String[] {"x", "( x )", "s", "~ s", "x + s", "1'd0", "{ x }", "x ? s : t", "s [ 0 ]", "u", "v"}) {
            links(0, ". p ( " + exp + " ) , . o ( u ) , . q ( v )");
        }
        Bench.holds(33, "module m ( input p ) ; endmodule module a ( ) ; wire `w ; m k ( . p ( w ) ) ; endmodule");
        Bench.holds(0, "module m ( input p ) ; endmodule module a ( ) ; wire w ; m k ( . p ( w ) ) ; m l ( . p ( w ) ) ; assign w = 1'd0 ; endmodule");
    }

    /** "31 at a NAME that is driven a second time (before =, or as a link's exp)". */
    private static void drivenTwice() {
        String front = "module m ( output o ) ; assign o = 1'd0 ; endmodule module a ( output y ) ; wire w ; ";
        String[] once = {"assign % = 1'd0 ; ", "m # ( . o ( % ) ) ; "};
        for (String first : once) {
            String one = first.replace("#", "k");
            Bench.holds(0, front + one.replace("%", "w") + one.replace("%", "y").replace('k', 'l') + "endmodule");
            for (String second : once) {
                String two = second.replace("#", "l");
                String rest = one.replace("%", "y").replace('k', 'j') + "endmodule";
                Bench.holds(31, front + one.replace("%", "w") + two.replace("%", "`w") + rest);
                Bench.holds(31, front + one.replace("%", "w") + rest.replace("endmodule", "") + two.replace("%", "`y") + "endmodule");
                Bench.holds(31, front + one.replace("%", "w") + two.replace("%", "`w") + second.replace("#", "h").replace("%", "w") + rest);
            }
        }
        // by one instance
        links(31, ". p ( x ) , . o ( u ) , . q ( `u )");
        links(31, ". p ( x ) , . q ( v ) , . o ( `v )");
        // what is driven in another module is none of it
        Bench.holds(0, "module a ( output w ) ; assign w = 1'd0 ; endmodule module b ( output w ) ; assign w = 1'd0 ; endmodule");
    }

    /** "32 at a NAME before <=: an earlier always of the module has it before one of its <=". */
    private static void setInTwo() {
        String front = "module a ( input x , output reg o ) ; reg r ; reg [ 1 : 0 ] s ; ";
        Bench.holds(0, front + ALWAYS + "r <= x ; " + ALWAYS + "o <= x ; " + ALWAYS + "s <= s ; endmodule");
        Bench.holds(32, front + ALWAYS + "r <= x ; " + ALWAYS + "`r <= x ; endmodule");
        Bench.holds(32, front + ALWAYS + "o <= x ; " + ALWAYS + "`o <= x ; endmodule");
        Bench.holds(32, front + ALWAYS + "r <= x ; " + ALWAYS + "o <= x ; " + ALWAYS + "`r <= x ; endmodule");
        Bench.holds(32, front + ALWAYS + "begin r <= x ; o <= x ; end " + ALWAYS + "begin s <= s ; `r <= x ; o <= x ; end endmodule");
        // as often as it likes within one always
        Bench.holds(0, front + ALWAYS + "begin r <= x ; r <= x ; if ( x ) r <= x ; else r <= x ; case ( x ) default : r <= x ; endcase end endmodule");
        // its parts are the register, too
        Bench.holds(32, front + ALWAYS + "s [ 0 ] <= x ; " + ALWAYS + "`s [ 1 ] <= x ; endmodule");
        Bench.holds(0, front + ALWAYS + "begin s [ 0 ] <= x ; s [ 1 ] <= x ; end endmodule");
        // wherever it stands there
        Bench.holds(32, front + ALWAYS + "if ( x ) begin end else case ( x ) default : begin r <= x ; end endcase " + ALWAYS
            + "if ( x ) `r <= x ; endmodule");
        // only before <=, not behind it, nor in a condition
        Bench.holds(0, front + ALWAYS + "if ( r ) o <= r ; " + ALWAYS + "r <= o ; endmodule");
        Bench.holds(0, front + ALWAYS + "o <= r <= r ; " + ALWAYS + "r <= o <= o ; endmodule");
        // an empty always before it has nothing
        Bench.holds(0, front + ALWAYS + "begin end " + ALWAYS + "r <= x ; endmodule");
        // "of the module"
        Bench.holds(0, "module a ( ) ; reg r ; " + ALWAYS + "r <= r ; endmodule module b ( ) ; reg r ; " + ALWAYS + "begin end "
            + ALWAYS + "r <= r ; endmodule");
    }

    /** "33 at the NAME where a driven one is declared, met at endmodule, in their order: nothing drives it." */
    private static void notDriven() {
        Bench.holds(33, "module a ( output `o ) ; endmodule");
        Bench.holds(33, "module a ( ) ; wire `w ; endmodule");
        Bench.holds(33, "module a ( ) ; wire [ 3 : 0 ] `w ; endmodule");
        Bench.holds(33, "module a ( output `o , output p ) ; endmodule");
        Bench.holds(33, "module a ( output o , output `p ) ; assign o = 1'd0 ; endmodule");
        Bench.holds(33, "module a ( output `o , output p ) ; assign p = 1'd0 ; endmodule");
        Bench.holds(33, "module a ( output `o ) ; wire w ; endmodule");
        Bench.holds(33, "module a ( output o ) ; wire `w ; assign o = w ; endmodule");
        Bench.holds(33, "module a ( ) ; wire `w ; wire v ; endmodule");
        Bench.holds(0, "module a ( output o ) ; wire w ; assign w = 1'd0 ; assign o = 1'd0 ; endmodule");
        // none of the others need be driven
        Bench.holds(0, "module m ( ) ; endmodule module a ( input x , output reg q ) ; reg r ; m i ( ) ; endmodule");
        // that it is used, or used as a condition, drives nothing
        Bench.holds(33, "module a ( ) ; wire `w ; assert ( w ) ; endmodule");
        Bench.holds(33, "module a ( ) ; wire `w ; reg r ; " + ALWAYS + "if ( w ) r <= w ; endmodule");
        // each module by itself
        Bench.holds(33, "module a ( output w ) ; assign w = 1'd0 ; endmodule module b ( output `w ) ; endmodule");
        Bench.holds(33, "module a ( output `w ) ; endmodule module b ( output w ) ; assign w = 1'd0 ; endmodule");
    }
}
