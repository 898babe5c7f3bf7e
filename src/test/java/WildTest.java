import java.util.Random;

/** Texts by chance, always the same ones: no call throws what the document does not name, and answers fit each other. */
public final class WildTest {
    private static final String[] PIECES = {
        "module", "endmodule", "input", "output", "wire", "reg", "assign", "always @ ( posedge clock )", "posedge", "clock",
        "begin", "end", "if (", "else", "case (", "endcase", "default", "assert (", "a", "b", "c", "m", "0", "1", "3", "63", "1'd1",
        "2'b10", "4'hF", "64'd1", "65536", "9'", "&&", "||", "==", "!=", "<=", ">=", "<<", ">>", "+", "-", "*", "&", "|", "^", "~",
        "!", "<", ">", "?", ":", ";", ",", ".", "(", ")", "[", "]", "{", "}", "=", "@", "#", "/* */", "/*", "//\n", "\u00ff"};
    private static final String RIGHT =
        "module m ( input [3:0] a , output reg [3:0] b = 4'd3 , output c ) ; assign c = & a ? a [ 0 ] : a [ b ] ; "
        + "always @ ( posedge clock ) if ( c ) b <= { 2 { a [ 1 : 0 ] } } ; else case ( a ) 4'd1 , 4'd2 : b [ 0 ] <= c ; "
        + "default : begin b <= a + b << 1'd1 ; end endcase endmodule "
        + "module t ( input a ) ; wire [3:0] b ; wire c ; m i ( . a ( { 4 { a } } ) , . b ( b ) , . c ( c ) ) ; assert ( b == 4'd2 ) ; endmodule";

    public static void main(String[] args) {
        Random chance = new Random(20261115);
        for (int run = 0; run < 3000; run++) {
            CircuitText x = new CircuitText();
            for (int text = 0; text < 4; text++) {
                ask(x, chance, run % 2 == 0 ? soup(chance) : changed(chance));
            }
        }
        bytes(chance);
        Bench.done("WildTest");
    }

    private static String soup(Random chance) {
        StringBuilder text = new StringBuilder(chance.nextBoolean() ? "module m ( ) ; " : "");
        int n = chance.nextInt(60);
        for (int i = 0; i < n; i++) {
            text.append(PIECES[chance.nextInt(PIECES.length)]).append(' ');
        }
        return text.toString();
    }

    private static String changed(Random chance) {
        String[] pieces = RIGHT.split(" ");
        int changes = chance.nextInt(3);
        for (int i = 0; i < changes; i++) {
            String other = chance.nextBoolean() ? PIECES[chance.nextInt(PIECES.length)] : pieces[chance.nextInt(pieces.length)];
            int at = chance.nextInt(pieces.length);
            pieces[at] = chance.nextInt(3) == 0 ? pieces[at] + " " + other : other;
        }
        return String.join(" ", pieces);
    }

    private static void bytes(Random chance) {
        CircuitText x = new CircuitText();
        for (int i = 0; i < 250; i++) {
            x.feed(chance.nextInt(), chance.nextInt(), chance.nextInt(), chance.nextInt(), chance.nextInt());
            if (chance.nextInt(3) == 0) {
                x.read();
            }
        }
    }

    private static void ask(CircuitText x, Random chance, String text) {
        Bench.put(x, text);
        int before = x.count();
        int place = x.read();
        int code = x.fault();
        if (place == CircuitText.NONE) {
            told(text, code == 0 && x.count() > 0);
            modules(x, text);
        } else {
            told(text, code > 0 && place >= 0 && place <= text.length() && x.count() == before);
        }
        told(text, Bench.end(x, 1) == Bench.ARGUMENT);
        Bench.module(x, chance.nextInt(4) - 1, chance.nextInt(10) - 1);
        Bench.declared(x, chance.nextInt(4) - 1, chance.nextInt(8) - 1, chance.nextInt(6) - 1);
        Bench.beginning(x, chance.nextInt(4) - 1, chance.nextInt(8) - 1);
    }

    private static void modules(CircuitText x, String text) {
        for (int m = 0; m < x.count(); m++) {
            told(text, x.module(m, 0) <= x.module(m, 1) && x.module(m, 6) <= 1501);
            for (int k = 0; k < x.module(m, 1); k++) {
                int place = x.declared(m, k, 2);
                int behind = place;
                while (behind < text.length() && (Character.isLetterOrDigit(text.charAt(behind)))) {
                    behind++;
                }
                told(text, Bench.find(x, m, text.substring(place, behind)) == k);
                told(text, x.declared(m, k, 0) == 5 == (x.declared(m, k, 1) == 0));
            }
        }
    }

    private static void told(String text, boolean fits) {
        Bench.due("what is told of " + text, fits ? 1 : 0, 1);
    }
}
