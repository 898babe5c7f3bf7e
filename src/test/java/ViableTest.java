import java.util.ArrayList;
import java.util.HashMap;
import java.util.HashSet;
import java.util.List;
import java.util.Map;
import java.util.Set;

/**
 * Part 2: "FAULT 2: at the first token with which no design goes on, or at the tape's end (at its length)". Every text that
 * differs in one token from one with all that the grammar has is held against the grammar itself, as rows of a table.
 */
public final class ViableTest {
    private static final String[] RULES = {
        "Design = Module", "Design = Design Module",
        "Module = module NAME ( Ports ) ; Items endmodule",
        "Ports =", "Ports = PortList", "PortList = Port", "PortList = PortList , Port",
        "Port = input Range NAME", "Port = output Range NAME", "Port = output reg Range NAME Begins",
        "Range =", "Range = [ PLAIN : PLAIN ]", "Begins =", "Begins = = SIZED",
        "Items =", "Items = Items Item",
        "Item = wire Range NAME ;", "Item = reg Range NAME Begins ;", "Item = assign NAME = Exp ;",
        "Item = always @ ( posedge clock ) Statement", "Item = NAME NAME ( Links ) ;", "Item = assert ( Exp ) ;",
        "Links =", "Links = LinkList", "LinkList = Link", "LinkList = LinkList , Link", "Link = . NAME ( Exp )",
        "Statement = begin Statements end", "Statements =", "Statements = Statements Statement",
        "Statement = if ( Exp ) Statement", "Statement = if ( Exp ) Statement else Statement",
        "Statement = case ( Exp ) Arms Default endcase", "Arms =", "Arms = Arms Values : Statement",
        "Values = SIZED", "Values = Values , SIZED", "Default =", "Default = default : Statement",
        "Statement = NAME <= Exp ;", "Statement = NAME Part <= Exp ;", "Part = [ PLAIN ]", "Part = [ PLAIN : PLAIN ]",
        "Exp = Binary", "Exp = Binary ? Exp : Exp", "Binary = Operand", "Binary = Binary Operator Operand",
        "Operator = ||", "Operator = &&", "Operator = |", "Operator = ^", "Operator = &", "Operator = ==", "Operator = !=",
        "Operator = <", "Operator = <=", "Operator = >", "Operator = >=", "Operator = <<", "Operator = >>",
        "Operator = +", "Operator = -", "Operator = *",
        "Operand = Primary", "Operand = Unary Operand",
        "Unary = ~", "Unary = !", "Unary = -", "Unary = &", "Unary = |", "Unary = ^",
        "Primary = SIZED", "Primary = NAME", "Primary = NAME Part", "Primary = NAME [ Exp ]", "Primary = ( Exp )",
        "Primary = { Exps }", "Primary = { PLAIN { Exp } }", "Exps = Exp", "Exps = Exps , Exp"};

    private static final String TEXT =
        "module m ( input p , input [ 1 : 0 ] q , output o , output reg s , output reg [ 1 : 0 ] t = 2'd1 ) ; assign o = p ; endmodule "
        + "module a ( ) ; wire w ; wire [ 1 : 0 ] v ; reg r ; reg [ 3 : 0 ] g = 4'd2 ; m i ( . p ( r ) , . q ( { r , r } ) ) ; m j ( ) ; "
        + "assign w = ~ r + g [ 1 ] * g [ 1 : 0 ] - g [ r ] ? ( r ) : { 2 { r } } ; assert ( ! - r && 1'd1 || & r ) ; "
        + "always @ ( posedge clock ) begin r <= r ; g [ 1 ] <= r <= r ; g [ 1 : 0 ] <= v ; begin end end "
        + "always @ ( posedge clock ) if ( r ) r <= r ; else if ( r == r ) begin end "
        + "always @ ( posedge clock ) case ( r ) 1'd0 , 1'd1 : r <= r ; 1'd0 : begin end default : r <= r ; endcase "
        + "always @ ( posedge clock ) case ( r ) endcase endmodule";

    private static final String[] TOKENS = ("module endmodule input output wire reg assign always posedge clock begin end if else case endcase "
        + "default assert r 1 1'd1 && || == != <= >= << >> + - * & | ^ ~ ! < > ? : ; , . ( ) [ ] { } = @").split(" ");

    private static final List<String[]> BODIES = new ArrayList<>();
    private static final Map<String, List<Integer>> RULES_OF = new HashMap<>();
    private static final Set<String> MAY_BE_EMPTY = new HashSet<>();
    private static final String[] HEADS = new String[RULES.length];

    private static CircuitText reader;
    private static int calls;

    public static void main(String[] args) {
        readRules();
        String[] text = TEXT.split(" ");
        List<List<int[]>> rows = new ArrayList<>();
        rows.add(beginning());
        for (int i = 0; i < text.length; i++) {
            oneChange(text, i, rows);
            rows.add(behind(rows, text[i]));
            Bench.due("the text goes on with " + text[i], rows.get(i + 1).isEmpty() ? 0 : 1, 1);
        }
        oneChange(text, text.length, rows);
        Bench.done("ViableTest");
    }

    private static void readRules() {
        for (int i = 0; i < RULES.length; i++) {
            int is = RULES[i].indexOf(" =");
            HEADS[i] = RULES[i].substring(0, is);
            String body = RULES[i].substring(is + 2).trim();
            BODIES.add(body.isEmpty() ? new String[0] : body.split(" "));
            RULES_OF.computeIfAbsent(HEADS[i], head -> new ArrayList<>()).add(i);
            if (body.isEmpty()) {
                MAY_BE_EMPTY.add(HEADS[i]);
            }
        }
    }

    /** All texts in which another token stands before or at place i, or none at it. */
    private static void oneChange(String[] text, int i, List<List<int[]>> rows) {
        List<String> before = List.of(text).subList(0, i);
        for (String token : TOKENS) {
            changed(before, rows, token, List.of(text).subList(i, text.length));
            if (i < text.length) {
                changed(before, rows, token, List.of(text).subList(i + 1, text.length));
            }
        }
        if (i + 1 < text.length) {
            changed(before, rows, text[i + 1], List.of(text).subList(i + 2, text.length));
        }
        changed(before, rows, null, List.of());
    }

    private static void changed(List<String> before, List<List<int[]>> rows, String token, List<String> after) {
        List<String> all = new ArrayList<>(before);
        if (token != null) {
            all.add(token);
        }
        all.addAll(after);
        List<List<int[]>> mine = new ArrayList<>(rows.subList(0, before.size() + 1));
        int wrong = -1;
        for (int i = before.size(); i < all.size() && wrong < 0; i++) {
            mine.add(behind(mine, all.get(i)));
            wrong = mine.get(i + 1).isEmpty() ? i : -1;
        }
        String text = String.join(" ", all);
        int place = wrong < 0 ? text.length() : String.join(" ", all.subList(0, wrong)).length() + (wrong == 0 ? 0 : 1);
        hold(text, wrong >= 0 || !isWhole(mine), place);
    }

    private static void hold(String text, boolean faulty, int place) {
        // an object is good for 512 calls
        if (reader == null || calls + text.length() / 20 + 4 > 512) {
            reader = new CircuitText();
            calls = 0;
        }
        calls += text.length() / 20 + 4;
        Bench.put(reader, text);
        int got = reader.read();
        int code = reader.fault();
        if (faulty) {
            Bench.due("read() of " + text, got, place);
            Bench.due("fault() of " + text, code, 2);
        } else {
            Bench.due("no fault of writing in " + text, code == 0 || code >= 20 ? 1 : 0, 1);
        }
    }

    private static boolean isWhole(List<List<int[]>> rows) {
        for (int[] item : rows.get(rows.size() - 1)) {
            if (HEADS[item[0]].equals("Design") && item[1] == BODIES.get(item[0]).length && item[2] == 0) {
                return true;
            }
        }
        return false;
    }

    /** An item is a rule, how much of it has been gone through, and the row where it began. */
    private static List<int[]> beginning() {
        List<int[]> row = new ArrayList<>();
        Set<Long> known = new HashSet<>();
        for (int rule : RULES_OF.get("Design")) {
            add(row, known, rule, 0, 0);
        }
        complete(row, known, List.of(), 0);
        return row;
    }

    private static void add(List<int[]> row, Set<Long> known, int rule, int dot, int from) {
        if (known.add(((long) rule * 100 + dot) * 100000 + from)) {
            row.add(new int[] {rule, dot, from});
        }
    }

    private static String next(int[] item) {
        String[] body = BODIES.get(item[0]);
        return item[1] < body.length ? body[item[1]] : null;
    }

    private static String classOf(String token) {
        if (token.matches("[0-9]+")) {
            return "PLAIN";
        }
        if (token.matches("[0-9]+'.*")) {
            return "SIZED";
        }
        return token.matches("[a-z]") ? "NAME" : token;
    }

    /** The row behind one token more; it is empty if no design goes on with that. */
    private static List<int[]> behind(List<List<int[]>> rows, String token) {
        List<int[]> row = new ArrayList<>();
        Set<Long> known = new HashSet<>();
        String is = classOf(token);
        for (int[] item : rows.get(rows.size() - 1)) {
            if (is.equals(next(item))) {
                add(row, known, item[0], item[1] + 1, item[2]);
            }
        }
        complete(row, known, rows, rows.size());
        return row;
    }

    private static void complete(List<int[]> row, Set<Long> known, List<List<int[]>> rows, int here) {
        for (int i = 0; i < row.size(); i++) {
            int[] item = row.get(i);
            String next = next(item);
            if (next == null && item[2] < here) {
                for (int[] waiting : rows.get(item[2])) {
                    if (HEADS[item[0]].equals(next(waiting))) {
                        add(row, known, waiting[0], waiting[1] + 1, waiting[2]);
                    }
                }
            } else if (next != null && RULES_OF.containsKey(next)) {
                for (int rule : RULES_OF.get(next)) {
                    add(row, known, rule, 0, here);
                }
                if (MAY_BE_EMPTY.contains(next)) {
                    add(row, known, item[0], item[1] + 1, item[2]);
                }
            }
        }
    }
}
