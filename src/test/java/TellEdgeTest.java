/** The boundary cases of promises 4 to 10; each method's comment is the sentence it looks at. */
public final class TellEdgeTest {
    private static final String ALWAYS = "always @ ( posedge clock ) ";
    private static final String DEEP = "module a ( ) ; assert ( " + "(".repeat(59) + "`(";
    /** A text for each fault there is, with the mark at it. */
    private static final int[] CODES = {1, 2, 3, 20, 21, 22, 23, 24, 25, 30, 31, 32, 33};
    private static final String[] FAULTS = {"`#", "module`", DEEP, "module a ( ) ; endmodule module `a ( ) ; endmodule",
        "module a ( input x , input `x ) ; endmodule", "module a ( ) ; assert ( `q ) ; endmodule",
        "module m ( ) ; endmodule module a ( input x ) ; m k ( . `p ( x ) ) ; endmodule",
        "module m ( input p ) ; endmodule module a ( ) ; m `k ( ) ; endmodule",
        "module m ( output reg p ) ; endmodule module a ( ) ; m k ( . p ( `1'd0 ) ) ; endmodule",
        "module a ( input `[ 64 : 0 ] x ) ; endmodule", "module a ( output x ) ; assign x = 1'd0 ; assign `x = 1'd0 ; endmodule",
        "module a ( ) ; reg r ; " + ALWAYS + "r <= r ; " + ALWAYS + "`r <= r ; endmodule", "module a ( output `x ) ; endmodule"};
    private static final String TWO = "module one ( input x ) ; endmodule module two ( input y , output reg z = 1'd1 ) ; assert ( y ) ; endmodule";

    public static void main(String[] args) {
        emptyThen();
        inPlaceOfThose();
        thoseStay();
        noneOrPlace();
        latestFault();
        howMany();
        countsOfModules();
        namesCounted();
        placesOfModules();
        numbersOfModules();
        whatOfModules();
        kindsAndWidths();
        placesOfNames();
        modulesOfInstances();
        numbersOfNames();
        whatOfNames();
        beginnings();
        found();
        notFound();
        foundThenEmpty();
        longNames();
        Bench.done("TellEdgeTest");
    }

    private static String plain(String marked) {
        return marked.replace("`", "");
    }

    /** Promise 4: "The tape is read, and is empty then": right or with any fault. */
    private static void emptyThen() {
        CircuitText x = Bench.right(TWO);
        Bench.due("length behind a right read()", Bench.length(x), 0);
        for (int i = 0; i < FAULTS.length; i++) {
            CircuitText y = new CircuitText();
            Bench.put(y, plain(FAULTS[i]));
            y.read();
            Bench.due("end(1) behind fault " + CODES[i], Bench.end(y, 1), Bench.ARGUMENT);
            Bench.due("length behind fault " + CODES[i], Bench.length(y), 0);
            Bench.due("read() behind fault " + CODES[i], y.read(), 0);
            Bench.due("fault() of the empty tape", y.fault(), 2);
        }
    }

    /** "if it has no fault its modules come in place of those that there were": more, fewer, and as many others. */
    private static void inPlaceOfThose() {
        CircuitText x = Bench.right("module a ( input a1 ) ; endmodule");
        int[] counts = {2, 3, 1, 1, 2};
        String[] texts = {TWO, TWO + " module three ( ) ; endmodule", "module b ( ) ; endmodule", "module c ( input c1 , input c2 ) ; endmodule", TWO};
        int[] names = {1, 1, 0, 2, 1};
        for (int i = 0; i < texts.length; i++) {
            Bench.put(x, texts[i]);
            Bench.due("read() of " + texts[i], x.read(), CircuitText.NONE);
            Bench.due("count()", x.count(), counts[i]);
            Bench.due("module(0, 1)", Bench.module(x, 0, 1), names[i]);
            Bench.due("module(count, 0)", Bench.module(x, counts[i], 0), Bench.INDEX);
            Bench.due("find a1", Bench.find(x, 0, "a1"), CircuitText.NONE);
        }
    }

    /** "NONE, or the place of its fault: then those that there were stay": for each fault. */
    private static void thoseStay() {
        for (int i = 0; i < FAULTS.length; i++) {
            CircuitText x = Bench.right(TWO);
            Bench.put(x, plain(FAULTS[i]));
            Bench.due("read() of " + FAULTS[i], x.read(), FAULTS[i].indexOf('`'));
            Bench.due("fault() of " + FAULTS[i], x.fault(), CODES[i]);
            Bench.due("count()", x.count(), 2);
            Bench.due("module(1, 0)", Bench.module(x, 1, 0), 2);
            Bench.due("module(1, 6)", Bench.module(x, 1, 6), 1);
            Bench.due("module(1, 7)", Bench.module(x, 1, 7), TWO.indexOf("two"));
            Bench.due("declared(1, 1, 0)", Bench.declared(x, 1, 1, 0), 2);
            Bench.due("declared(1, 1, 2)", Bench.declared(x, 1, 1, 2), TWO.indexOf("z ="));
            Bench.due("beginning(1, 1)", Bench.beginning(x, 1, 1), 1);
            Bench.due("find z", Bench.find(x, 1, "z"), 1);
            Bench.due("find x", Bench.find(x, 0, "x"), 0);
            CircuitText none = new CircuitText();
            Bench.put(none, plain(FAULTS[i]));
            none.read();
            Bench.due("count() of none", none.count(), 0);
            Bench.due("module(0, 0) of none", Bench.module(none, 0, 0), Bench.INDEX);
        }
    }

    /** The place 0 is a fault's place, and not NONE. */
    private static void noneOrPlace() {
        Bench.due("NONE", CircuitText.NONE, -1);
        Bench.faulty(1, 0, "#");
        Bench.faulty(2, 0, "x");
        Bench.faulty(2, 0, "");
        Bench.faulty(2, 1, " ");
        Bench.faulty(1, 1, " #");
    }

    /** Promise 5: "The code of the fault of the latest read(); 0 if it had none, or there was none". */
    private static void latestFault() {
        CircuitText x = new CircuitText();
        Bench.due("fault() before all", x.fault(), 0);
        Bench.put(x, "#");
        Bench.due("fault() before a read()", x.fault(), 0);
        x.end(0);
        Bench.due("fault() before a read()", x.fault(), 0);
        for (int i = 0; i < 2 * FAULTS.length; i++) {
            Bench.put(x, plain(FAULTS[i % FAULTS.length]));
            x.read();
            Bench.due("fault()", x.fault(), CODES[i % FAULTS.length]);
            Bench.due("fault() again", x.fault(), CODES[i % FAULTS.length]);
            if (i >= FAULTS.length) {
                Bench.put(x, "module a ( ) ; endmodule");
                Bench.due("fault() behind a feed", x.fault(), CODES[i % FAULTS.length]);
                x.read();
                Bench.due("fault() of a right one", x.fault(), 0);
                Bench.find(x, 0, "b");
                Bench.due("fault() behind find()", x.fault(), 0);
            }
        }
    }

    /** Promise 6: "How many modules there are." */
    private static void howMany() {
        StringBuilder text = new StringBuilder();
        for (int n = 1; n <= 12; n++) {
            text.append("module m").append(n).append("();endmodule ");
            Bench.due("count() of " + n, Bench.right(text.toString()).count(), n);
        }
    }

    /** Promise 7, what = 0, 2, 3, 4, 5: none, one, two, three of each, and not of the others. */
    private static void countsOfModules() {
        for (int n = 0; n <= 3; n++) {
            StringBuilder ports = new StringBuilder("input x");
            StringBuilder drive = new StringBuilder();
            for (int i = 1; i < n; i++) {
                ports.append(" , output reg o").append(i);
            }
            for (int i = 0; i < n; i++) {
                drive.append("wire w").append(i).append(" ; assign w").append(i).append(" = x ; ");
            }
            counted("module a ( " + (n == 0 ? "" : ports) + " ) ; endmodule", 0, n, n);
            counted("module a ( input x ) ; " + drive + "endmodule", 2, n, 1 + n);
            counted("module a ( input x ) ; " + (ALWAYS + "begin end ").repeat(n) + "endmodule", 3, n, 1);
            counted("module a ( input x ) ; " + "assert ( x ) ; ".repeat(n) + "endmodule", 5, n, 1);
            StringBuilder instances = new StringBuilder();
            for (int i = 0; i < n; i++) {
                instances.append("m k").append(i).append(" ( ) ; ");
            }
            counted("module m ( ) ; endmodule module a ( input x ) ; " + instances + "endmodule", 4, n, 1 + n);
        }
    }

    /** In the text's last module there are n of what, so many names in all, and none of the others but ports and cost. */
    private static void counted(String text, int what, int n, int names) {
        CircuitText x = Bench.right(text);
        int last = x.count() - 1;
        for (int other = 2; other <= 5; other++) {
            Bench.due("module(" + last + ", " + other + ") of " + text, Bench.module(x, last, other), other == what ? n : 0);
        }
        Bench.due("ports of " + text, Bench.module(x, last, 0), what == 0 ? n : 1);
        Bench.due("names of " + text, Bench.module(x, last, 1), names);
    }

    /** "1 how many names (ports, wires, registers, instances)": each of them is one. */
    private static void namesCounted() {
        String[] items = {"wire w ; assign w = x ; ", "reg r ; ", "m k ( ) ; "};
        for (int which = 0; which < 8; which++) {
            StringBuilder text = new StringBuilder("module m ( ) ; endmodule module a ( input x ) ; ");
            for (int i = 0; i < 3; i++) {
                text.append((which >> i & 1) == 1 ? items[i] : "");
            }
            CircuitText x = Bench.right(text + "endmodule");
            Bench.due("names of " + text, Bench.module(x, 1, 1), 1 + Integer.bitCount(which));
            Bench.due("ports of " + text, Bench.module(x, 1, 0), 1);
        }
    }

    /** "7 its NAME's place": of the tape that was read. */
    private static void placesOfModules() {
        for (int blanks : new int[] {1, 2, 20, 513}) {
            String text = "module" + " ".repeat(blanks) + "a();endmodule module/*x*/b();endmodule";
            CircuitText x = Bench.right(text);
            Bench.due("place of a", Bench.module(x, 0, 7), 6 + blanks);
            Bench.due("place of b", Bench.module(x, 1, 7), text.indexOf("b()"));
        }
    }

    /** "there is no such module": below the first, the first, the last, behind the last. */
    private static void numbersOfModules() {
        CircuitText x = Bench.right(TWO);
        for (int m : new int[] {-2, -1, 0, 1, 2, 3, Integer.MIN_VALUE, Integer.MAX_VALUE}) {
            boolean is = m == 0 || m == 1;
            Bench.due("module(" + m + ", 0)", Bench.module(x, m, 0), is ? m + 1 : Bench.INDEX);
            Bench.due("declared(" + m + ", 0, 0)", Bench.declared(x, m, 0, 0), is ? 0 : Bench.INDEX);
            Bench.due("beginning(" + m + ", 0)", Bench.beginning(x, m, 0), is ? 0 : Bench.INDEX);
            Bench.due("find(" + m + ")", Bench.find(x, m, ""), is ? CircuitText.NONE : Bench.INDEX);
        }
    }

    /** "IllegalArgumentException: what is none of these"; IndexOutOfBoundsException, which is named first, comes before it. */
    private static void whatOfModules() {
        CircuitText x = Bench.right(TWO);
        for (int what : new int[] {-1, -2, 8, 9, Integer.MIN_VALUE, Integer.MAX_VALUE}) {
            Bench.due("module(0, " + what + ")", Bench.module(x, 0, what), Bench.ARGUMENT);
            Bench.due("module(1, " + what + ")", Bench.module(x, 1, what), Bench.ARGUMENT);
            Bench.due("module(2, " + what + ")", Bench.module(x, 2, what), Bench.INDEX);
            Bench.due("module(-1, " + what + ")", Bench.module(x, -1, what), Bench.INDEX);
        }
        int[] first = {1, 1, 0, 0, 0, 0, 0, 7};
        int[] second = {2, 2, 0, 0, 0, 1, 1, TWO.indexOf("two")};
        for (int what = 0; what <= 7; what++) {
            Bench.due("module(0, " + what + ")", Bench.module(x, 0, what), first[what]);
            Bench.due("module(1, " + what + ")", Bench.module(x, 1, what), second[what]);
        }
    }

    private static final String NAMES = "module m ( ) ; endmodule module a ( output [ 63 : 0 ] o , input i , output reg [ 1 : 0 ] q , input [ 62 : 0 ] j ) ; "
        + "reg [ 0 : 0 ] r ; m k ( ) ; wire [ 3 : 0 ] w ; assign w = 4'd0 ; reg s ; assign o = 64'd0 ; endmodule";

    /** Promise 8: "in the order in which they are declared: what = 0 what it is .., 1 its width (0 for an instance)". */
    private static void kindsAndWidths() {
        int[] kinds = {1, 0, 2, 0, 4, 5, 3, 4};
        int[] widths = {64, 1, 2, 63, 1, 0, 4, 1};
        CircuitText x = Bench.right(NAMES);
        Bench.due("names", Bench.module(x, 1, 1), kinds.length);
        for (int k = 0; k < kinds.length; k++) {
            Bench.due("declared(1, " + k + ", 0)", Bench.declared(x, 1, k, 0), kinds[k]);
            Bench.due("declared(1, " + k + ", 1)", Bench.declared(x, 1, k, 1), widths[k]);
            Bench.due("declared(1, " + k + ", 3)", Bench.declared(x, 1, k, 3), kinds[k] == 5 ? 0 : CircuitText.NONE);
        }
    }

    /** "2 its place": that of its NAME, where it is declared. */
    private static void placesOfNames() {
        String[] at = {"o , input", "i , output", "q , input", "j )", "r ; m", "k ( )", "w ; assign", "s ; assign"};
        CircuitText x = Bench.right(NAMES);
        for (int k = 0; k < at.length; k++) {
            Bench.due("declared(1, " + k + ", 2)", Bench.declared(x, 1, k, 2), NAMES.indexOf(at[k]));
        }
    }

    /** "3 of which module an instance is (by its number; NONE for others)". */
    private static void modulesOfInstances() {
        String text = "module c ( ) ; endmodule module b ( ) ; c i ( ) ; endmodule module a ( ) ; b i ( ) ; c j ( ) ; b k ( ) ; reg r ; endmodule";
        CircuitText x = Bench.right(text);
        Bench.due("declared(1, 0, 3)", Bench.declared(x, 1, 0, 3), 0);
        int[] of = {1, 0, 1, CircuitText.NONE};
        for (int k = 0; k < of.length; k++) {
            Bench.due("declared(2, " + k + ", 3)", Bench.declared(x, 2, k, 3), of[k]);
        }
    }

    /** "there is no such .. name": below the first, the last, behind the last; of a module without names. */
    private static void numbersOfNames() {
        CircuitText x = Bench.right(NAMES);
        for (int k : new int[] {-2, -1, 8, 9, Integer.MIN_VALUE, Integer.MAX_VALUE}) {
            Bench.due("declared(1, " + k + ", 0)", Bench.declared(x, 1, k, 0), Bench.INDEX);
            Bench.due("beginning(1, " + k + ")", Bench.beginning(x, 1, k), Bench.INDEX);
        }
        for (int k = -1; k <= 1; k++) {
            Bench.due("declared(0, " + k + ", 0)", Bench.declared(x, 0, k, 0), Bench.INDEX);
            Bench.due("beginning(0, " + k + ")", Bench.beginning(x, 0, k), Bench.INDEX);
        }
        Bench.due("declared(1, 7, 0)", Bench.declared(x, 1, 7, 0), 4);
        Bench.due("beginning(1, 7)", Bench.beginning(x, 1, 7), 0);
    }

    /** "IllegalArgumentException: what is none of these"; IndexOutOfBoundsException, which is named first, comes before it. */
    private static void whatOfNames() {
        CircuitText x = Bench.right(NAMES);
        for (int what : new int[] {-1, -2, 4, 5, 7, 8, Integer.MIN_VALUE, Integer.MAX_VALUE}) {
            Bench.due("declared(1, 0, " + what + ")", Bench.declared(x, 1, 0, what), Bench.ARGUMENT);
            Bench.due("declared(1, 7, " + what + ")", Bench.declared(x, 1, 7, what), Bench.ARGUMENT);
            Bench.due("declared(1, 8, " + what + ")", Bench.declared(x, 1, 8, what), Bench.INDEX);
            Bench.due("declared(1, -1, " + what + ")", Bench.declared(x, 1, -1, what), Bench.INDEX);
            Bench.due("declared(2, 0, " + what + ")", Bench.declared(x, 2, 0, what), Bench.INDEX);
            Bench.due("declared(-1, 0, " + what + ")", Bench.declared(x, -1, 0, what), Bench.INDEX);
            Bench.due("declared(0, 0, " + what + ")", Bench.declared(x, 0, 0, what), Bench.INDEX);
        }
    }

    /** Promise 9: "What a register begins with, as 64 bits; 0 for others." */
    private static void beginnings() {
        String[] numbers = {"1'd0", "1'd1", "2'd3", "8'd255", "31'h7fffffff", "32'hffffffff", "32'h80000000", "33'h100000000",
            "33'h1ffffffff", "63'h7fffffffffffffff", "64'h7fffffffffffffff", "64'h8000000000000000", "64'hffffffffffffffff", "64'd0"};
        long[] values = {0, 1, 3, 255, 0x7fffffffL, 0xffffffffL, 0x80000000L, 0x100000000L, 0x1ffffffffL, Long.MAX_VALUE, Long.MAX_VALUE,
            Long.MIN_VALUE, -1, 0};
        for (int i = 0; i < numbers.length; i++) {
            int width = Integer.parseInt(numbers[i].substring(0, numbers[i].indexOf('\'')));
            String range = "[ " + (width - 1) + " : 0 ] ";
            CircuitText x = Bench.right("module a ( output reg " + range + "q = " + numbers[i] + " , input y ) ; reg s ; reg " + range + "r = "
                + numbers[i] + " ; reg t ; endmodule");
            Bench.due("beginning of q with " + numbers[i], Bench.beginning(x, 0, 0), values[i]);
            Bench.due("beginning of y", Bench.beginning(x, 0, 1), 0);
            Bench.due("beginning of s", Bench.beginning(x, 0, 2), 0);
            Bench.due("beginning of r with " + numbers[i], Bench.beginning(x, 0, 3), values[i]);
            Bench.due("beginning of t", Bench.beginning(x, 0, 4), 0);
        }
        CircuitText x = Bench.right(NAMES);
        for (int k = 0; k < 8; k++) {
            Bench.due("beginning(1, " + k + ")", Bench.beginning(x, 1, k), 0);
        }
    }

    /** Promise 10: "Which name of a module the tape is": the first, the last, each kind; of this module alone. */
    private static void found() {
        CircuitText x = Bench.right(NAMES);
        String names = "oiqjrkws";
        for (int k = 0; k < names.length(); k++) {
            Bench.due("find " + names.charAt(k), Bench.find(x, 1, names.substring(k, k + 1)), k);
            Bench.due("find in m " + names.charAt(k), Bench.find(x, 0, names.substring(k, k + 1)), CircuitText.NONE);
        }
        CircuitText y = Bench.right("module a ( input p , input s ) ; endmodule module b ( input s , input p ) ; endmodule");
        Bench.due("find p in a", Bench.find(y, 0, "p"), 0);
        Bench.due("find p in b", Bench.find(y, 1, "p"), 1);
    }

    /** "byte by byte (no blanks)"; "NONE". */
    private static void notFound() {
        CircuitText x = Bench.right("module aaa ( input abc , input ab$ , input _ ) ; endmodule");
        for (String other : new String[] {"", "a", "ab", "abcd", "abC", "Abc", "bc", " abc", "abc ", "abc\n", "\nabc", "abc\t", "ab c", "abc\u0000",
            "\u0000", "\u00e1bc", "abc/**/", "abc//", "abc,", "aaa", "module", "input", "ab", "ab$$", "$", "__", "abcabc", "abc abc"}) {
            Bench.due("find '" + other + "'", Bench.find(x, 0, other), CircuitText.NONE);
        }
        Bench.due("find abc", Bench.find(x, 0, "abc"), 0);
        Bench.due("find ab$", Bench.find(x, 0, "ab$"), 1);
        Bench.due("find _", Bench.find(x, 0, "_"), 2);
        CircuitText none = Bench.right("module a ( ) ; endmodule");
        Bench.due("find '' of none", Bench.find(none, 0, ""), CircuitText.NONE);
        Bench.due("find a of none", Bench.find(none, 0, "a"), CircuitText.NONE);
    }

    /** "which is empty then": found or not; the modules and the fault stay. */
    private static void foundThenEmpty() {
        CircuitText x = Bench.right("module a ( input b ) ; endmodule");
        Bench.put(x, "#");
        x.read();
        for (String text : new String[] {"b", "c", "", "b b", "#"}) {
            Bench.due("find " + text, Bench.find(x, 0, text), text.equals("b") ? 0 : CircuitText.NONE);
            Bench.due("end(1) then", Bench.end(x, 1), Bench.ARGUMENT);
            Bench.due("length then", Bench.length(x), 0);
            Bench.due("find the empty tape", Bench.find(x, 0, ""), CircuitText.NONE);
            Bench.due("count() then", x.count(), 1);
            Bench.due("fault() then", x.fault(), 1);
        }
    }

    /** A name is as long as it likes. */
    private static void longNames() {
        for (int length : new int[] {1, 3, 4, 5, 19, 20, 21, 39, 40, 41, 511, 512, 513, 3000}) {
            String name = "n".repeat(length);
            CircuitText x = Bench.right("module a ( input " + name + "0 , input " + name + " , input x" + name + " ) ; endmodule");
            Bench.due("find " + length, Bench.find(x, 0, name), 1);
            Bench.due("find " + length + " and one", Bench.find(x, 0, name + "0"), 0);
            Bench.due("find one and " + length, Bench.find(x, 0, "x" + name), 2);
            Bench.due("find " + length + " and another", Bench.find(x, 0, name + "1"), CircuitText.NONE);
            Bench.due("find less than " + length, Bench.find(x, 0, name.substring(1)), CircuitText.NONE);
        }
    }
}
