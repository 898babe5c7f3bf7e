/** Part 1, TEXT: tokens, comments, words, numbers; fault 1. */
public final class TextTest {
    public static void main(String[] args) {
        blanks();
        comments();
        words();
        plainNumbers();
        sizedNumbers();
        signs();
        Bench.done("TextTest");
    }

    private static void blanks() {
        Bench.right("module\ta\r\n(\t)\n;endmodule ");
        Bench.right("module a();endmodule");
        Bench.right("module a();endmodule module b();endmodule");
        Bench.faulty(1, "module a ( ) ;`\f endmodule");
        Bench.faulty(1, "module a ( ) ;`\u000b endmodule");
        Bench.faulty(1, "module a ( ) ;`\u0000 endmodule");
        Bench.faulty(1, "module a ( ) ; `\u00a0 endmodule");
        Bench.faulty(1, "module a ( ) ; `\u00e4 endmodule");
        Bench.faulty(2, "   `");
        Bench.faulty(2, "`endmodule");
        Bench.faulty(2, "module a ( ) ; endmodule `endmodule");
    }

    private static void comments() {
        Bench.right("//x\nmodule a ( ) ; endmodule");
        Bench.right("module a ( ) ; endmodule //");
        Bench.right("module a ( ) ; endmodule // /*");
        Bench.right("module/**/a/* */(/* // */)/***/;/* /* */endmodule");
        Bench.right("/*/ */ module a ( ) ; endmodule");
        Bench.right("// one\n// two\n/* three */ /* four */module a ( ) ; endmodule/**/");
        Bench.faulty(2, "// module a ( ) ; endmodule\r`");
        Bench.faulty(1, "module a ( ) ; endmodule `/*/");
        Bench.faulty(1, "module a ( ) ; endmodule `/* * /");
        Bench.faulty(1, "module a ( ) ; endmodule `/*");
        Bench.faulty(1, "module a ( ) ; endmodule `/");
        Bench.faulty(1, "module a ( ) ; `/ / endmodule");
        Bench.faulty(2, "module a ( ) ; endmodule `x /*");
        Bench.faulty(2, "module /* a */`");
        Bench.faulty(1, "module `/* a");
    }

    private static void words() {
        Bench.right("module _ ( input _a$0 , input A , input a ) ; endmodule");
        Bench.right("module azAZ_09$ ( input Az09 , input Zz$ , input z_ , input Z ) ; endmodule");
        Bench.right("module modules ( input Module , input end1 , input clock_ ) ; endmodule");
        Bench.faulty(2, "module `clock ( ) ; endmodule");
        Bench.faulty(2, "module `posedge ( ) ; endmodule");
        Bench.faulty(2, "module `default ( ) ; endmodule");
        Bench.faulty(2, "module `assert ( ) ; endmodule");
        Bench.faulty(2, "module `endcase ( ) ; endmodule");
        Bench.faulty(2, "`modul a ( ) ; endmodule");
        Bench.faulty(2, "`Module a ( ) ; endmodule");
        Bench.faulty(1, "module `$a ( ) ; endmodule");
        Bench.faulty(1, "module `'a ( ) ; endmodule");
        Bench.faulty(1, "module a`'a ( ) ; endmodule");
        Bench.faulty(1, "module a`# ( ) ; endmodule");
        Bench.faulty(1, "module a`\" ( ) ; endmodule");
        Bench.faulty(1, "module a`% ( ) ; endmodule");
        Bench.faulty(1, "module a`\\ ( ) ; endmodule");
    }

    private static void plainNumbers() {
        Bench.right("module a ( input [0:0] b , input [0063:00000000] c ) ; endmodule");
        Bench.faulty(30, "module a ( input `[065535:0] b ) ; endmodule");
        Bench.faulty(1, "module a ( input [`65536:0] b ) ; endmodule");
        Bench.faulty(1, "module a ( input [`99999999999999999999:0] b ) ; endmodule");
        Bench.faulty(1, "module a ( input [`4294967296:0] b ) ; endmodule");
        Bench.faulty(1, "module a ( input [`3_:0] b ) ; endmodule");
        Bench.faulty(1, "module a ( input [`3$:0] b ) ; endmodule");
        Bench.faulty(1, "module a ( input [`3a:0] b ) ; endmodule");
        Bench.faulty(1, "module a ( input [`3':0] b ) ; endmodule");
        Bench.faulty(2, "module a ( input [`3'd1:0] b ) ; endmodule");
        Bench.faulty(2, "module `0 ( input [3:0] b ) ; endmodule");
        Bench.faulty(1, "module `0x ( input [3:0] b ) ; endmodule");
    }

    private static void sizedNumbers() {
        begins("1'b1", 1, 1);
        begins("4'b0101", 4, 5);
        begins("004'b000000000000000000000000000000000000000000000000000000000000000000000000000101", 4, 5);
        begins("6'o77", 6, 63);
        begins("4'd15", 4, 15);
        begins("8'hfF", 8, 255);
        begins("24'haBcDeF", 24, 0xabcdef);
        begins("24'hAbCdEf", 24, 0xabcdef);
        begins("40'h0123456789", 40, 0x0123456789L);
        begins("63'd9223372036854775807", 63, Long.MAX_VALUE);
        begins("64'd9223372036854775808", 64, Long.MIN_VALUE);
        begins("64'd18446744073709551615", 64, -1);
        begins("64'o1777777777777777777777", 64, -1);
        begins("64'hffffffffffffffff", 64, -1);
        begins("64'h0000ffffffffffffffff", 64, -1);
        begins("64'b1000000000000000000000000000000000000000000000000000000000000000", 64, Long.MIN_VALUE);
        begins("33'd4294967296", 33, 1L << 32);
        wrongNumber("0'd0");
        wrongNumber("00'd0");
        wrongNumber("65'd0");
        wrongNumber("4294967297'd0");
        wrongNumber("18446744073709551617'd1");
        wrongNumber("1'b2");
        wrongNumber("3'b0002");
        wrongNumber("1'd2");
        wrongNumber("6'o78");
        wrongNumber("4'd1a");
        wrongNumber("4'd16");
        wrongNumber("6'o100");
        wrongNumber("8'h100");
        wrongNumber("8'hg");
        wrongNumber("8'h1_0");
        wrongNumber("8'h1$");
        wrongNumber("8'hf$");
        wrongNumber("8'hf_");
        wrongNumber("8'hG");
        wrongNumber("64'hZ");
        wrongNumber("8'h");
        wrongNumber("8'");
        wrongNumber("8'1");
        wrongNumber("8'x1");
        wrongNumber("8'D1");
        wrongNumber("8'B1");
        wrongNumber("8'O1");
        wrongNumber("8'H1");
        wrongNumber("8_'d1");
        wrongNumber("8a'd1");
        wrongNumber("8''d1");
        wrongNumber("8' d1");
        wrongNumber("64'd18446744073709551616");
        wrongNumber("64'd18446744073709551620");
        wrongNumber("64'd99999999999999999999999999999999999999999999999");
        wrongNumber("64'h10000000000000000");
        wrongNumber("64'o2000000000000000000000");
        wrongNumber("63'd9223372036854775808");
        wrongNumber("32'd4294967296");
        Bench.faulty(1, "module a ( ) ; reg r = 1'd1`' ; endmodule");
        Bench.faulty(2, "module a ( ) ; reg r = `8 'd1 ; endmodule");
    }

    private static void begins(String number, int width, long value) {
        CircuitText x = Bench.right("module a ( ) ; reg [" + (width - 1) + ":0] r = " + number + "; endmodule");
        Bench.due("beginning with " + number, Bench.beginning(x, 0, 0), value);
    }

    private static void wrongNumber(String number) {
        Bench.faulty(1, "module a ( ) ; reg r = `" + number + " ; endmodule");
    }

    /** Signs are as long as may be. */
    private static void signs() {
        String head = "module a ( input x , input y ) ; assert ( ";
        String tail = " ) ; endmodule";
        Bench.right(head + "x&&&y" + tail);
        Bench.right(head + "x|||y" + tail);
        Bench.right(head + "x&& &y" + tail);
        Bench.right(head + "x!=!y" + tail);
        Bench.right(head + "x<<~y>>-y" + tail);
        Bench.faulty(2, head + "x& `&& y" + tail);
        Bench.faulty(2, head + "`&&x" + tail);
        Bench.faulty(2, head + "x&&`&&y" + tail);
        Bench.faulty(2, head + "x < `< y" + tail);
        Bench.faulty(2, head + "x <<`<= y" + tail);
        Bench.faulty(2, head + "x ==`= y" + tail);
        Bench.faulty(2, head + "x `= = y" + tail);
        Bench.faulty(2, head + "x `! = y" + tail);
        Bench.faulty(2, head + "x `@ y" + tail);
        Bench.faulty(1, head + "x `# y" + tail);
    }
}
