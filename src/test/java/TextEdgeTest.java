import java.math.BigInteger;

/** The boundary cases of part 1, TEXT; each method's comment is the sentence it looks at. */
public final class TextEdgeTest {
    private static final String SIGNS = "+-*&|^~!<>?:;,.()[]{}=@";
    private static final String[] KEYWORDS = {"module", "endmodule", "input", "output", "wire", "reg", "assign", "always",
        "posedge", "clock", "begin", "end", "if", "else", "case", "endcase", "default", "assert"};
    private static final char[] LETTERS = {'b', 'o', 'd', 'h'};
    private static final int[] BASES = {2, 8, 10, 16};

    public static void main(String[] args) {
        placesFromZero();
        blanks();
        firstBytesOfWords();
        otherBytesOfWords();
        keywords();
        namesApart();
        asLongAsMayBe();
        signsApart();
        lineComments();
        otherComments();
        commentsAnywhere();
        plainValues();
        plainBytes();
        sizedWidths();
        sizedValues();
        sizedBaseLetters();
        sizedFirstDigits();
        sizedOtherDigits();
        quotes();
        zerosInFront();
        numbersAtTheEnd();
        Bench.done("TextEdgeTest");
    }

    private static boolean isBlank(int b) {
        return b == 9 || b == 10 || b == 13 || b == 32;
    }

    private static boolean isLetter(int b) {
        return b >= 'a' && b <= 'z' || b >= 'A' && b <= 'Z';
    }

    private static boolean isDigit(int b) {
        return b >= '0' && b <= '9';
    }

    private static boolean isSign(int b) {
        return SIGNS.indexOf(b) >= 0;
    }

    /** "PLACES on it are counted from 0." */
    private static void placesFromZero() {
        Bench.faulty(1, "`#");
        Bench.faulty(1, " `#");
        Bench.faulty(2, "`a");
        Bench.faulty(2, " `a");
        Bench.faulty(2, "`");
        Bench.faulty(2, " `");
        Bench.due("place of a NAME", Bench.module(Bench.right("module a();endmodule"), 0, 7), 7);
        Bench.due("place of a NAME", Bench.module(Bench.right(" module a();endmodule"), 0, 7), 8);
    }

    /** "BLANKS (9, 10, 13, 32)"; "a byte with which no token begins": each byte, where only an item or a blank may stand. */
    private static void blanks() {
        String before = "module a ( ) ; ";
        int place = before.length();
        for (int b = 0; b < 256; b++) {
            String text = before + (char) b + " endmodule";
            if (isBlank(b)) {
                Bench.right(text);
                Bench.right("module" + (char) b + "a();endmodule");
                Bench.right((char) b + "module a();endmodule" + (char) b);
            } else if (isLetter(b) || b == '_') {
                Bench.faulty(2, place + 2, text);
            } else {
                Bench.faulty(isDigit(b) || isSign(b) ? 2 : 1, place, text);
            }
        }
    }

    /** "A WORD: a letter or _": each byte in front of another letter. */
    private static void firstBytesOfWords() {
        for (int b = 0; b < 256; b++) {
            String text = "module " + (char) b + "x ( ) ; endmodule";
            if (isBlank(b) || isLetter(b) || b == '_') {
                CircuitText x = Bench.right(text);
                Bench.due("place in " + text, Bench.module(x, 0, 7), isBlank(b) ? 8 : 7);
            } else {
                Bench.faulty(isSign(b) ? 2 : 1, 7, text);
            }
        }
    }

    /** "then letters, digits, _ and $": each byte behind a letter. */
    private static void otherBytesOfWords() {
        for (int b = 0; b < 256; b++) {
            String text = "module a ( input x" + (char) b + " ) ; endmodule";
            int place = text.indexOf('x') + 1;
            if (isBlank(b) || isLetter(b) || isDigit(b) || b == '_' || b == '$') {
                CircuitText x = Bench.right(text);
                Bench.due("find in " + text, Bench.find(x, 0, isBlank(b) ? "x" : "x" + (char) b), 0);
            } else if (b == ')' || b == ',') {
                Bench.faulty(2, place + 2, text);
            } else {
                Bench.faulty(isSign(b) ? 2 : 1, place, text);
            }
        }
    }

    /** "KEYWORDS: ..; another word is a NAME". */
    private static void keywords() {
        for (String keyword : KEYWORDS) {
            Bench.faulty(2, "module `" + keyword + " ( ) ; endmodule");
            Bench.faulty(2, "module a ( input `" + keyword + " ) ; endmodule");
            String less = keyword.substring(0, keyword.length() - 1);
            String other = Character.toUpperCase(keyword.charAt(0)) + keyword.substring(1);
            String last = less + Character.toUpperCase(keyword.charAt(keyword.length() - 1));
            for (String name : new String[] {less, keyword + "s", keyword + "_", keyword + "0", keyword + "$", "_" + keyword, other, last}) {
                CircuitText x = Bench.right("module a ( input " + name + " ) ; endmodule");
                Bench.due("find " + name, Bench.find(x, 0, name), 0);
            }
        }
    }

    /** Names are the same when all their bytes are: all pairs of two letters, and more that differ in one byte alone. */
    private static void namesApart() {
        String letters = "abcdefghijklmnopqrstuvwxyzABCDEFGHIJKLMNOPQRSTUVWXYZ_$0";
        for (int first = 0; first < 53; first++) {
            StringBuilder ports = new StringBuilder();
            for (int second = 0; second < letters.length(); second++) {
                String name = "" + letters.charAt(first) + letters.charAt(second);
                ports.append(name.equals("if") ? "" : (ports.length() == 0 ? "" : ",") + "input " + name);
            }
            CircuitText x = Bench.right("module m(" + ports + ");endmodule");
            int last = Bench.module(x, 0, 1) - 1;
            Bench.due("find " + letters.charAt(first) + "0", Bench.find(x, 0, letters.charAt(first) + "0"), last);
        }
        String longer = "n".repeat(300);
        Bench.right("module m(input " + longer + "a,input " + longer + "b,input " + longer + ",input a" + longer + ");endmodule");
        Bench.faulty(21, "module m(input " + longer + "a,input `" + longer + "a);endmodule");
        // two pairs that many a hash holds for the same
        Bench.right("module m(input Aa,input BB,input AaAa,input BBBB,input AaBB,input BBAa);endmodule");
        Bench.right("module Aa();endmodule module BB();endmodule module m();Aa x();BB y();endmodule");
    }

    private static void exp(int code, String exp) {
        Bench.holds(code, "module a(input x,input y);assert(" + exp + ");endmodule");
    }

    /** "TOKENS, from the left, each as long as may be". */
    private static void asLongAsMayBe() {
        Bench.faulty(2, "module a ( ) ; endmodule1`");
        Bench.faulty(2, "`module1 ( ) ; endmodule");
        Bench.faulty(1, "module a ( input [`3x:0] y ) ; endmodule");
        Bench.faulty(1, "module a ( ) ; reg r = `1'b12 ; endmodule");
        exp(0, "x&&&y");
        exp(2, "x&&`&&y");
        exp(2, "x&&`&&&y");
        exp(0, "x|||y");
        exp(2, "x||`||y");
        exp(0, "x<=-y");
        exp(2, "x<=`=y");
        exp(2, "x>=`=y");
        exp(2, "x==`=y");
        exp(2, "x!=`=y");
        exp(2, "x==`==y");
        exp(2, "x<<`<y");
        exp(2, "x<<`=y");
        exp(2, "x<<`<<y");
        exp(2, "x<<`<=y");
        exp(2, "x>>`>y");
        exp(2, "x>>`=y");
        exp(2, "x<`>y");
        exp(2, "x>`<y");
        exp(2, "x`=<y");
        exp(2, "x`=>y");
        exp(2, "x`=!y");
        exp(0, "x!=!y");
        exp(0, "!!x");
        exp(0, "x&~y");
        exp(0, "x-- -y");
    }

    /** A sign of two bytes is one only when nothing stands between them. */
    private static void signsApart() {
        for (String between : new String[] {" ", "\t", "\n", "\r", "/**/", "//\n"}) {
            exp(0, "x&" + between + "&y");
            exp(0, "x|" + between + "|y");
            exp(2, "x`=" + between + "=y");
            exp(2, "x`!" + between + "=y");
            exp(2, "x<" + between + "`=y");
            exp(2, "x>" + between + "`=y");
            exp(2, "x<" + between + "`<y");
            exp(2, "x>" + between + "`>y");
        }
        for (String sign : new String[] {"&&", "||", "==", "!=", "<=", ">=", "<<", ">>", "+", "-", "*", "&", "|", "^", "<", ">"}) {
            exp(0, "x" + sign + "y");
        }
    }

    /** "comments (// to before the next byte 10, or the end ..". */
    private static void lineComments() {
        String design = "module a();endmodule";
        Bench.right(design + "//");
        Bench.right(design + "///");
        Bench.right(design + "//\n");
        Bench.right(design + "// x");
        Bench.right("//\n" + design);
        Bench.right("////\n" + design);
        Bench.right("//*\n" + design);
        Bench.right("//*/\n" + design);
        Bench.right("// /*\n" + design);
        Bench.right("//#'\"\u0000\u00ff\t\r" + "\n" + design);
        Bench.right("//\n//\n" + design + "//\n//");
        Bench.faulty(1, "//\n`#" + design);
        Bench.faulty(2, "//\n`x");
        // no other blank ends it
        Bench.faulty(2, "//\r" + design + "`");
        Bench.faulty(2, "//\t " + design + "\r`");
        Bench.faulty(2, "//" + design + "`");
        // a / alone begins nothing
        Bench.faulty(1, design + "`/");
        Bench.faulty(1, design + "`/ /");
        Bench.faulty(1, design + "`/\n/");
        Bench.faulty(1, "`/" + design);
    }

    /** ".. /* to behind the next * and / at once, both behind it)"; "a comment that does not end". */
    private static void otherComments() {
        String design = "module a();endmodule";
        Bench.right("/**/" + design);
        Bench.right("/***/" + design + "/****/");
        Bench.right("/*/*/" + design);
        Bench.right("/* * / */" + design);
        Bench.right("/*//*/" + design);
        Bench.right("/*\n*/" + design);
        Bench.right("/*#'\"\u0000\u00ff*/" + design);
        Bench.right(design + "/*x*/");
        Bench.right("/**//**/" + design);
        Bench.faulty(1, design + "`/*");
        Bench.faulty(1, design + "`/*/");
        Bench.faulty(1, design + "`/**");
        Bench.faulty(1, design + "`/* *");
        Bench.faulty(1, design + "`/* * /");
        Bench.faulty(1, design + "`/*\n");
        Bench.faulty(1, "`/*/" + design);
        Bench.faulty(1, "`/*" + design + "//*");
        Bench.faulty(1, "/**/`/*");
        // they do not nest: behind the first end the text goes on
        Bench.faulty(2, "/* /* */ `*/" + design);
        Bench.faulty(1, "/**/`/" + design);
        Bench.faulty(1, design + "/**/`/");
    }

    /** Blanks and comments "stand anywhere between", and nothing need stand there but between words and numbers. */
    private static void commentsAnywhere() {
        String[] tokens = ("module a ( input [ 3 : 0 ] x , output w , output reg y = 1'd1 ) ; assign w = x [ 0 ] ; "
            + "always @ ( posedge clock ) begin y <= { x [ 1 ] } ; end endmodule").split(" ");
        for (String between : new String[] {" ", "\t", "\n", "\r", "/**/", "/* */", "//\n", " // x\n /* y */ "}) {
            StringBuilder text = new StringBuilder(between);
            for (String token : tokens) {
                text.append(token).append(between);
            }
            Bench.right(text.toString());
        }
        Bench.right("module a(input[3:0]x,output w,output reg y=1'd1);assign w=x[0];"
            + "always@(posedge clock)begin y<={x[1]};end endmodule");
        Bench.faulty(2, "`mod/**/ule a();endmodule");
        Bench.faulty(2, "module a();`end/**/module");
        Bench.faulty(2, "module a ( ) ; reg r = `1/**/'d1 ; endmodule");
        Bench.faulty(1, "module a ( ) ; reg r = `1'/**/d1 ; endmodule");
        Bench.faulty(1, "module a ( ) ; reg r = `1'd/**/1 ; endmodule");
    }

    /** "PLAIN: digits alone, with a value of at most 65535". One that is let in is no width, which is fault 30. */
    private static void plainValues() {
        for (int value = 65530; value <= 65540; value++) {
            boolean right = value <= 65535;
            Bench.faulty(right ? 30 : 1, "module a ( input " + (right ? "`[" : "[`") + value + ":0] x ) ; endmodule");
            Bench.faulty(right ? 30 : 1, "module a ( input " + (right ? "`[0:" : "[0:`") + value + "] x ) ; endmodule");
            exp(right ? 30 : 1, right ? "x`[" + value + "]" : "x[`" + value + "]");
            exp(right ? 30 : 1, right ? "`{" + value + "{x}}" : "{`" + value + "{x}}");
        }
        for (String most : new String[] {"655350", "655360", "99999", "100000", "131071", "131072", "4294967295", "4294967296",
            "2147483647", "2147483648", "18446744073709551616", "9".repeat(500), "1" + "0".repeat(500)}) {
            Bench.faulty(1, "module a ( input [`" + most + ":0] x ) ; endmodule");
        }
        Bench.right("module a ( input [0:0] x ) ; endmodule");
    }

    /** "goes on with letters, digits, _, $"; "digits alone": each byte behind a digit. */
    private static void plainBytes() {
        String before = "module a ( input [";
        int place = before.length();
        for (int b = 0; b < 256; b++) {
            String text = before + "3" + (char) b + ":0] x ) ; endmodule";
            if (isDigit(b) || isBlank(b)) {
                Bench.right(text);
            } else if (isLetter(b) || b == '_' || b == '$' || b == '\'') {
                Bench.faulty(1, place, text);
            } else if (b == ':') {
                Bench.faulty(2, place + 2, text);
            } else {
                Bench.faulty(isSign(b) ? 2 : 1, place + 1, text);
            }
        }
    }

    /** "digits (the WIDTH, 1 .. 64)". */
    private static void sizedWidths() {
        for (int width = 0; width <= 130; width++) {
            boolean right = width >= 1 && width <= 64;
            for (String zeros : new String[] {"", "0", "000000000000000000000"}) {
                exp(right ? 0 : 1, "`" + zeros + width + "'d0");
            }
        }
        for (String width : new String[] {"640", "256", "257", "65536", "65537", "65600", "4294967296", "4294967297", "4294967360",
            "18446744073709551617", "9".repeat(300)}) {
            exp(1, "`" + width + "'d0");
        }
    }

    /** "with a value below 2 to the width": for each width and base. */
    private static void sizedValues() {
        for (int width = 1; width <= 64; width++) {
            BigInteger bound = BigInteger.ONE.shiftLeft(width);
            for (int i = 0; i < BASES.length; i++) {
                sizedValue(width, i, bound.subtract(BigInteger.TWO));
                sizedValue(width, i, bound.subtract(BigInteger.ONE));
                sizedValue(width, i, bound);
                sizedValue(width, i, bound.add(BigInteger.ONE));
                sizedValue(width, i, bound.multiply(BigInteger.valueOf(BASES[i])));
                sizedValue(width, i, bound.shiftLeft(64));
                sizedValue(width, i, bound.shiftRight(1));
                sizedValue(width, i, BigInteger.ZERO);
            }
        }
    }

    private static void sizedValue(int width, int base, BigInteger value) {
        String number = width + "'" + LETTERS[base] + value.toString(BASES[base]);
        if (value.bitLength() <= width) {
            CircuitText x = Bench.right(register(width, number));
            Bench.due("beginning with " + number, Bench.beginning(x, 0, 0), value.longValue());
        } else {
            Bench.faulty(1, register(width, "`" + number));
        }
    }

    private static String register(int width, String number) {
        return "module a ( ) ; reg [" + (width - 1) + ":0] r = " + number + " ; endmodule";
    }

    /** "one of b o d h (small ones)": each byte behind the '. */
    private static void sizedBaseLetters() {
        for (int b = 0; b < 256; b++) {
            String text = register(4, "4'" + (char) b + "1");
            if (b == 'b' || b == 'o' || b == 'd' || b == 'h') {
                Bench.right(text);
            } else {
                Bench.faulty(1, text.indexOf("4'"), text);
            }
        }
    }

    /** "digits of the base 2, 8, 10, 16 (a .. f small or great), at least one": each byte behind the base. */
    private static void sizedFirstDigits() {
        for (int i = 0; i < BASES.length; i++) {
            for (int b = 0; b < 256; b++) {
                String text = register(4, "4'" + LETTERS[i] + (char) b);
                int digit = b < 128 ? Character.digit(b, BASES[i]) : -1;
                if (digit >= 0) {
                    Bench.due("beginning in " + text, Bench.beginning(Bench.right(text), 0, 0), digit);
                } else {
                    Bench.faulty(1, text.indexOf("4'"), text);
                }
            }
        }
    }

    /** The same behind a first digit, where the number may also end; a second ' is none of its bytes. */
    private static void sizedOtherDigits() {
        for (int i = 0; i < BASES.length; i++) {
            for (int b = 0; b < 256; b++) {
                String text = register(4, "4'" + LETTERS[i] + "0" + (char) b);
                int place = text.indexOf("4'");
                int digit = b < 128 ? Character.digit(b, BASES[i]) : -1;
                if (digit >= 0 || isBlank(b)) {
                    Bench.due("beginning in " + text, Bench.beginning(Bench.right(text), 0, 0), Math.max(digit, 0));
                } else if (isLetter(b) || isDigit(b) || b == '_' || b == '$') {
                    Bench.faulty(1, place, text);
                } else if (b == ';') {
                    Bench.faulty(2, place + 6, text);
                } else {
                    Bench.faulty(isSign(b) ? 2 : 1, place + 4, text);
                }
            }
        }
    }

    /** "and at most one '". */
    private static void quotes() {
        exp(0, "1'd1");
        exp(1, "1'd1`'");
        exp(1, "1'd1`'d1");
        exp(1, "1'd1`''");
        exp(1, "`1''d1");
        exp(1, "`1'");
        exp(1, "`1'd'1");
        exp(1, "`'d1");
        exp(1, "x`'d1");
        exp(1, "x +`'");
        Bench.faulty(1, "module a ( input [`1'0:0] x ) ; endmodule");
    }

    /** "(Zeros in front of any of these digits are let in.)" */
    private static void zerosInFront() {
        String zeros = "0".repeat(400);
        Bench.right("module a ( input [" + zeros + "63:" + zeros + "0] x ) ; endmodule");
        Bench.faulty(30, "module a ( input `[" + zeros + "65535:0] x ) ; endmodule");
        Bench.faulty(1, "module a ( input [`" + zeros + "65536:0] x ) ; endmodule");
        for (int i = 0; i < BASES.length; i++) {
            for (int width : new int[] {1, 32, 33, 63, 64}) {
                BigInteger bound = BigInteger.ONE.shiftLeft(width);
                String front = zeros + width + "'" + LETTERS[i] + zeros;
                String most = front + bound.subtract(BigInteger.ONE).toString(BASES[i]);
                CircuitText x = Bench.right(register(width, most));
                Bench.due("beginning with " + most, Bench.beginning(x, 0, 0), bound.subtract(BigInteger.ONE).longValue());
                Bench.faulty(1, register(width, "`" + front + bound.toString(BASES[i])));
            }
        }
        exp(1, "`" + zeros + "'d1");
        exp(0, "1'd" + zeros);
    }

    /** "at its first byte", also where the tape ends within the number. */
    private static void numbersAtTheEnd() {
        String before = "module a ( ) ; reg r = ";
        for (String number : new String[] {"1'", "1'd", "1'b2", "1x", "65536", "0'd0", "65'd0"}) {
            Bench.faulty(1, before + "`" + number);
        }
        Bench.faulty(2, before + "1'd1`");
        Bench.faulty(2, before + "`1");
    }
}
