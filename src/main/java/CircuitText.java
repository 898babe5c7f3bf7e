import java.util.ArrayList;
import java.util.Arrays;

/**
 * Reads the description of a clocked circuit, module by module, and refuses it at its first fault;
 * of what is right it tells modules, names, widths, places and costs.
 */
public final class CircuitText {
    public static final int NONE = -1;

    private static final int TAPE_MOST = 65536;
    private static final int FED_AT_ONCE = 20;
    private static final int OPEN_MOST = 60;
    private static final int WIDTH_MOST = 64;
    private static final int PLAIN_MOST = 65535;
    private static final int COST_MOST = 1500;
    // No tape has so many tokens: a loop over tokens that is bounded by this ends by its tokens.
    private static final int STEPS_MOST = 1000000;

    private static final int BAD_TEXT = 1;
    private static final int BAD_GRAMMAR = 2;
    private static final int TOO_DEEP = 3;
    private static final int MODULE_TWICE = 20;
    private static final int NAME_TWICE = 21;
    private static final int WRONG_NAME = 22;
    private static final int WRONG_LINK = 23;
    private static final int NOT_LINKED = 24;
    private static final int NOT_DRIVABLE = 25;
    private static final int WRONG_WIDTH = 30;
    private static final int DRIVEN_TWICE = 31;
    private static final int SET_ELSEWHERE = 32;
    private static final int NOT_DRIVEN = 33;

    // Kinds of tokens. The keywords' kinds count from MODULE in the order of KEYWORDS; a sign's kind
    // is its byte, or its two bytes, so that none of them meets a kind below 33.
    private static final String KEYWORDS =
        "module endmodule input output wire reg assign always posedge clock begin end if else case endcase default assert ";
    private static final int MODULE = 1;
    private static final int ENDMODULE = 2;
    private static final int INPUT = 3;
    private static final int OUTPUT = 4;
    private static final int WIRE = 5;
    private static final int REG = 6;
    private static final int ASSIGN = 7;
    private static final int ALWAYS = 8;
    private static final int POSEDGE = 9;
    private static final int CLOCK = 10;
    private static final int BEGIN = 11;
    private static final int END = 12;
    private static final int IF = 13;
    private static final int ELSE = 14;
    private static final int CASE = 15;
    private static final int ENDCASE = 16;
    private static final int DEFAULT = 17;
    private static final int ASSERT = 18;
    private static final int NAME = 19;
    private static final int PLAIN = 20;
    private static final int SIZED = 21;
    private static final int TAPE_END = 22;
    private static final int BAD = 23;

    private static final String PAIRS = "&&||==!=<=>=<<>>";
    private static final String SIGNS = "+-*&|^~!<>?:;,.()[]{}=@";
    private static final int BOTH = '&' * 256 + '&';
    private static final int EITHER = '|' * 256 + '|';
    private static final int SAME = '=' * 256 + '=';
    private static final int OTHER = '!' * 256 + '=';
    private static final int AT_MOST = '<' * 256 + '=';
    private static final int AT_LEAST = '>' * 256 + '=';
    private static final int SHIFT_LEFT = '<' * 256 + '<';
    private static final int SHIFT_RIGHT = '>' * 256 + '>';

    // What a name is, in the document's numbers.
    private static final int AN_INPUT = 0;
    private static final int AN_OUTPUT = 1;
    private static final int AN_OUTPUT_REG = 2;
    private static final int A_WIRE = 3;
    private static final int A_REG = 4;
    private static final int AN_INSTANCE = 5;

    private final Tape tape;
    private ArrayList<Unit> units;
    private int latestFault;

    public CircuitText() {
        tape = new Tape();
        units = new ArrayList<>();
        latestFault = 0;
    }

    public int feed(int a, int b, int c, int d, int e) throws UnsupportedOperationException {
        if (tape.length + FED_AT_ONCE > TAPE_MOST) {
            throw new UnsupportedOperationException("the tape would be too long");
        }
        tape.append(a);
        tape.append(b);
        tape.append(c);
        tape.append(d);
        tape.append(e);
        return tape.length;
    }

    public void end(int n) throws IllegalArgumentException {
        if (n < 0 || n > tape.length) {
            throw new IllegalArgumentException("the tape has not so many bytes");
        }
        tape.length = n;
    }

    public int read() {
        Verdict verdict = new Verdict();
        Meaning meaning = new Meaning(verdict);
        Lexer lexer = new Lexer(tape);
        Grammar grammar = new Grammar(lexer.tokens(), meaning, verdict);
        boolean whole = true;
        try {
            grammar.design();
        } catch (IllegalStateException refused) {
            // A fault of writing ends the reading at once; the verdict has it.
            whole = false;
        }
        tape.length = 0;
        latestFault = verdict.code;
        if (!whole || verdict.code != 0) {
            return verdict.place;
        }
        units = meaning.units;
        return NONE;
    }

    public int fault() {
        return latestFault;
    }

    public int count() {
        return units.size();
    }

    public int module(int m, int what) throws IndexOutOfBoundsException, IllegalArgumentException {
        Unit unit = unitAt(m);
        if (unit == null) {
            throw new IndexOutOfBoundsException("no such module");
        }
        switch (what) {
            case 0: return unit.ports;
            case 1: return unit.names.size();
            case 2: return unit.assigns;
            case 3: return unit.always;
            case 4: return unit.instances;
            case 5: return unit.asserts;
            case 6: return unit.cost;
            case 7: return unit.place;
            default: throw new IllegalArgumentException("nothing of a module has this number");
        }
    }

    public int declared(int m, int k, int what) throws IndexOutOfBoundsException, IllegalArgumentException {
        Name name = nameAt(m, k);
        if (name == null) {
            throw new IndexOutOfBoundsException("no such module or name");
        }
        switch (what) {
            case 0: return name.kind;
            case 1: return name.width;
            case 2: return name.place;
            case 3: return name.of == null ? NONE : name.of.number;
            default: throw new IllegalArgumentException("nothing of a name has this number");
        }
    }

    public long beginning(int m, int k) throws IndexOutOfBoundsException {
        Name name = nameAt(m, k);
        if (name == null) {
            throw new IndexOutOfBoundsException("no such module or name");
        }
        return name.begins;
    }

    public int find(int m) throws IndexOutOfBoundsException {
        Unit unit = unitAt(m);
        if (unit == null) {
            throw new IndexOutOfBoundsException("no such module");
        }
        int found = NONE;
        for (int k = 0; k < unit.names.size() && found == NONE; k++) {
            Word word = unit.names.get(k).word;
            if (word != null && tape.spells(word.text)) {
                found = k;
            }
        }
        tape.length = 0;
        return found;
    }

    private Unit unitAt(int m) {
        return m >= 0 && m < units.size() ? units.get(m) : null;
    }

    private Name nameAt(int m, int k) {
        Unit unit = unitAt(m);
        return unit != null && k >= 0 && k < unit.names.size() ? unit.names.get(k) : null;
    }

    /** The bytes that were fed; its row grows with them, for most tapes stay short. */
    private static final class Tape {
        private byte[] bytes = new byte[512];
        private int length = 0;

        void append(int four) {
            if (length + 4 > bytes.length) {
                bytes = Arrays.copyOf(bytes, 2 * bytes.length);
            }
            for (int shift = 24; shift >= 0 && length < bytes.length; shift -= 8) {
                bytes[length] = (byte) (four >> shift);
                length++;
            }
        }

        /** NONE outside of the tape. */
        int byteAt(int place) {
            return place >= 0 && place < length && place < bytes.length ? bytes[place] & 255 : NONE;
        }

        byte[] copy(int from, int to) {
            boolean inside = from >= 0 && from <= to && to <= length;
            return inside ? Arrays.copyOfRange(bytes, from, to) : new byte[0];
        }

        boolean spells(byte[] text) {
            boolean same = text.length == length;
            for (int i = 0; i < text.length && same; i++) {
                same = (text[i] & 255) == byteAt(i);
            }
            return same;
        }
    }

    /** A text of letters that stands on the tape: one object for all places where it stands. */
    private static final class Word {
        private final byte[] text;
        private final Word next;
        private int kind = NAME;
        private Unit unit = null;
        private Name declaration = null;

        Word(byte[] text, Word next) {
            this.text = text;
            this.next = next;
        }

        boolean spells(byte[] other) {
            boolean same = text.length == other.length;
            for (int i = 0; i < text.length && i < other.length && same; i++) {
                same = text[i] == other[i];
            }
            return same;
        }
    }

    /** All words of one text, the keywords first among them. */
    private static final class Words {
        private static final int CHAINS = 128;

        private final Word[] chains = new Word[CHAINS];

        Words() {
            int kind = MODULE;
            int from = 0;
            for (int i = 0; i < KEYWORDS.length(); i++) {
                if (KEYWORDS.charAt(i) == ' ') {
                    wordOf(keywordText(from, i)).kind = kind;
                    kind++;
                    from = i + 1;
                }
            }
        }

        private static byte[] keywordText(int from, int to) {
            byte[] text = new byte[to >= from ? to - from : 0];
            for (int i = 0; i < text.length; i++) {
                text[i] = (byte) KEYWORDS.charAt(from + i);
            }
            return text;
        }

        private Word wordOf(byte[] text) {
            int hash = 0;
            for (int i = 0; i < text.length; i++) {
                hash = 31 * hash + text[i];
            }
            int chain = hash & (CHAINS - 1);
            for (Word word = chains[chain]; word != null; word = word.next) {
                if (word.spells(text)) {
                    return word;
                }
            }
            chains[chain] = new Word(text, chains[chain]);
            return chains[chain];
        }
    }

    private static final class Token {
        private final int kind;
        private final int place;
        private final int behind;
        private Token next = null;
        private Word word = null;
        private int width = 0;
        private long value = 0;

        Token(int kind, int place, int behind) {
            this.kind = kind;
            this.place = place;
            this.behind = behind;
        }

        /** Only of a PLAIN number, which is small. */
        int plain() {
            return (int) value;
        }
    }

    /** Makes a chain of tokens of the tape; its last one is TAPE_END, or BAD at a fault of the text. */
    private static final class Lexer {
        private static final long LOW_HALF = 0xffffffffL;

        private final Tape tape;
        private final Words words = new Words();

        Lexer(Tape tape) {
            this.tape = tape;
        }

        Token tokens() {
            Token first = tokenAt(behindBlanks(0));
            Token last = first;
            for (int i = 0; i <= TAPE_MOST && last.kind != TAPE_END && last.kind != BAD; i++) {
                Token next = tokenAt(behindBlanks(last.behind));
                last.next = next;
                last = next;
            }
            return first;
        }

        /** Stands still at a comment that does not end: no token begins with its / either. */
        private int behindBlanks(int place) {
            int at = place;
            for (int i = 0; i <= TAPE_MOST; i++) {
                int next = behindBlank(at);
                if (next == at) {
                    break;
                }
                at = next;
            }
            return at;
        }

        private int behindBlank(int place) {
            int here = tape.byteAt(place);
            if (here == 9 || here == 10 || here == 13 || here == 32) {
                return place + 1;
            }
            if (here != '/') {
                return place;
            }
            int next = tape.byteAt(place + 1);
            return next == '/' ? behindLine(place) : next == '*' ? behindComment(place) : place;
        }

        private int behindLine(int place) {
            int at = place;
            while (at < tape.length && tape.byteAt(at) != 10) {
                at++;
            }
            return at;
        }

        private int behindComment(int place) {
            for (int at = place + 2; at + 1 < tape.length; at++) {
                if (tape.byteAt(at) == '*' && tape.byteAt(at + 1) == '/') {
                    return at + 2;
                }
            }
            return place;
        }

        private Token tokenAt(int place) {
            int here = tape.byteAt(place);
            if (here == NONE) {
                return new Token(TAPE_END, tape.length, tape.length);
            }
            if (isDigit(here)) {
                return number(place);
            }
            return isLetter(here) || here == '_' ? word(place) : sign(place);
        }

        private Token word(int place) {
            int behind = place;
            while (behind < tape.length && goesOn(tape.byteAt(behind))) {
                behind++;
            }
            Word word = words.wordOf(tape.copy(place, behind));
            Token token = new Token(word.kind, place, behind);
            token.word = word;
            return token;
        }

        private Token sign(int place) {
            int here = tape.byteAt(place);
            int next = tape.byteAt(place + 1);
            for (int i = 0; i + 1 < PAIRS.length(); i += 2) {
                if (here == PAIRS.charAt(i) && next == PAIRS.charAt(i + 1)) {
                    return new Token(here * 256 + next, place, place + 2);
                }
            }
            boolean known = SIGNS.indexOf((char) here) >= 0;
            return new Token(known ? here : BAD, place, place + 1);
        }

        private Token number(int place) {
            int quote = NONE;
            int behind = place;
            while (behind < tape.length) {
                int here = tape.byteAt(behind);
                if (here == '\'' && quote == NONE) {
                    quote = behind;
                } else if (!goesOn(here)) {
                    break;
                }
                behind++;
            }
            return quote == NONE ? plainNumber(place, behind) : sizedNumber(place, quote, behind);
        }

        private Token plainNumber(int place, int behind) {
            int value = decimal(place, behind, PLAIN_MOST);
            Token token = new Token(value == NONE ? BAD : PLAIN, place, behind);
            token.value = value;
            return token;
        }

        /** NONE if not all are digits, or the value is above most. */
        private int decimal(int from, int to, int most) {
            int value = 0;
            for (int at = from; at < to; at++) {
                if (!isDigit(tape.byteAt(at))) {
                    return NONE;
                }
                value = Math.min(10 * value + tape.byteAt(at) - '0', most + 1);
            }
            return value <= most ? value : NONE;
        }

        private Token sizedNumber(int place, int quote, int behind) {
            int width = decimal(place, quote, WIDTH_MOST);
            int base = baseOf(tape.byteAt(quote + 1));
            Token bad = new Token(BAD, place, behind);
            if (width < 1 || base == 0 || quote + 2 >= behind) {
                return bad;
            }
            // In two halves, because 64 bits in one number would hide that a digit was too many.
            long high = 0;
            long low = 0;
            for (int at = quote + 2; at < behind; at++) {
                int digit = digitOf(tape.byteAt(at));
                low = low * base + digit;
                high = high * base + (low >>> 32);
                low = low & LOW_HALF;
                if (digit == NONE || digit >= base || high > LOW_HALF) {
                    return bad;
                }
            }
            Token token = new Token(SIZED, place, behind);
            token.width = width;
            token.value = high << 32 | low;
            return width < WIDTH_MOST && token.value >>> width != 0 ? bad : token;
        }

        private static int baseOf(int letter) {
            switch (letter) {
                case 'b': return 2;
                case 'o': return 8;
                case 'd': return 10;
                case 'h': return 16;
                default: return 0;
            }
        }

        private static int digitOf(int here) {
            if (isDigit(here)) {
                return here - '0';
            }
            if (here >= 'a' && here <= 'f') {
                return here - 'a' + 10;
            }
            return here >= 'A' && here <= 'F' ? here - 'A' + 10 : NONE;
        }

        private static boolean isDigit(int here) {
            return here >= '0' && here <= '9';
        }

        private static boolean isLetter(int here) {
            return here >= 'a' && here <= 'z' || here >= 'A' && here <= 'Z';
        }

        private static boolean goesOn(int here) {
            return isLetter(here) || isDigit(here) || here == '_' || here == '$';
        }
    }

    /** What a module has declared. */
    private static final class Name {
        private final Unit owner;
        private final Word word;
        private final int kind;
        private final int width;
        private final int place;
        private long begins = 0;
        private boolean driven = false;
        private int setIn = 0;
        // Of an instance: its module, and how many of that one's ports it has linked.
        private Unit of = null;
        private int linked = 0;
        // Of a port: the latest instance that has linked it.
        private Name linkedBy = null;

        Name(Unit owner, Token token, int kind, int width) {
            this.owner = owner;
            this.word = token.word;
            this.kind = kind;
            this.width = width;
            this.place = token.place;
        }

        boolean isRegister() {
            return kind == AN_OUTPUT_REG || kind == A_REG;
        }

        boolean isDrivable() {
            return kind == AN_OUTPUT || kind == A_WIRE;
        }

        boolean isOutput() {
            return kind == AN_OUTPUT || kind == AN_OUTPUT_REG;
        }
    }

    /** A module; its ports are the first of its names. */
    private static final class Unit {
        private final Word word;
        private final int place;
        private final int number;
        private final ArrayList<Name> names = new ArrayList<>();
        private int ports = 0;
        private int assigns = 0;
        private int always = 0;
        private int instances = 0;
        private int asserts = 0;
        private int cost = 0;

        Unit(Token token, int number) {
            this.word = token.word;
            this.place = token.place;
            this.number = number;
        }

        Name portOf(Word name) {
            for (int k = 0; k < ports && k < names.size(); k++) {
                if (names.get(k).word == name) {
                    return names.get(k);
                }
            }
            return null;
        }
    }

    /** The fault of a text: of meaning the first one met, but any fault of writing comes before it. */
    private static final class Verdict {
        private int code = 0;
        private int place = NONE;

        void check(boolean right, int otherwise, int at) {
            if (!right && code == 0) {
                code = otherwise;
                place = at;
            }
        }
    }

    /** Goes through the text by the grammar, and hands what it finds to the meaning in the order of the text. */
    private static final class Grammar {
        private final Meaning meaning;
        private final Verdict verdict;
        private Token now;
        private int open = 0;

        Grammar(Token first, Meaning meaning, Verdict verdict) {
            this.now = first;
            this.meaning = meaning;
            this.verdict = verdict;
        }

        void design() {
            unitText();
            for (int i = 0; i < STEPS_MOST && now.kind != TAPE_END; i++) {
                unitText();
            }
        }

        /** The one way to the next token: what can't be taken here ends the reading. */
        private Token take(int kind) {
            Token taken = now;
            switch (kind) {
                case '(': case '[': case '{': case '?': case BEGIN: case IF: case CASE:
                    open++;
                    break;
                // A ? and an if are not here: no token of their own closes them.
                case ')': case ']': case '}': case END: case ENDCASE:
                    open--;
                    break;
                default:
                    break;
            }
            if (taken.kind != kind || open > OPEN_MOST) {
                verdict.code = taken.kind == BAD ? BAD_TEXT : taken.kind != kind ? BAD_GRAMMAR : TOO_DEEP;
                verdict.place = taken.place;
                throw new IllegalStateException("the text is not well written");
            }
            if (taken.next != null) {
                now = taken.next;
            }
            return taken;
        }

        private void unitText() {
            take(MODULE);
            meaning.beginUnit(take(NAME));
            take('(');
            if (now.kind != ')') {
                port();
            }
            for (int i = 0; i < STEPS_MOST && now.kind != ')'; i++) {
                take(',');
                port();
            }
            take(')');
            take(';');
            for (int i = 0; i < STEPS_MOST && now.kind != ENDMODULE; i++) {
                // Items are told apart here, not in a method of their own, so that calls go less deep.
                switch (now.kind) {
                    case WIRE: wire(); break;
                    case REG: register(A_REG); take(';'); break;
                    case ASSIGN: assign(); break;
                    case ALWAYS: alwaysHead(); statement(); break;
                    case ASSERT: assertion(); break;
                    default: instance();
                }
            }
            take(ENDMODULE);
            meaning.finishUnit();
        }

        private void port() {
            if (now.kind == INPUT) {
                take(INPUT);
                plainName(AN_INPUT);
            } else {
                take(OUTPUT);
                if (now.kind == REG) {
                    register(AN_OUTPUT_REG);
                } else {
                    plainName(AN_OUTPUT);
                }
            }
            meaning.unit().ports++;
        }

        private void wire() {
            take(WIRE);
            plainName(A_WIRE);
            take(';');
        }

        private void plainName(int kind) {
            int width = range();
            meaning.declare(take(NAME), kind, width);
        }

        private void register(int kind) {
            take(REG);
            int width = range();
            Name name = meaning.declare(take(NAME), kind, width);
            if (now.kind == '=') {
                take('=');
                meaning.begin(name, take(SIZED));
            }
        }

        private int range() {
            if (now.kind != '[') {
                return 1;
            }
            Token bracket = take('[');
            int high = take(PLAIN).plain();
            take(':');
            int low = take(PLAIN).plain();
            take(']');
            return meaning.rangeWidth(bracket, high, low);
        }

        private void assign() {
            take(ASSIGN);
            meaning.unit().assigns++;
            int width = meaning.widthOf(meaning.assigned(take(NAME)));
            Token sign = take('=');
            verdict.check(width == expression(), WRONG_WIDTH, sign.place);
            take(';');
        }

        private void alwaysHead() {
            take(ALWAYS);
            take('@');
            take('(');
            take(POSEDGE);
            take(CLOCK);
            take(')');
            meaning.unit().always++;
        }

        private void assertion() {
            take(ASSERT);
            meaning.unit().asserts++;
            take('(');
            meaning.spend(expression());
            take(')');
            take(';');
        }

        private void instance() {
            Unit of = meaning.instanced(take(NAME));
            Name instance = meaning.declareInstance(take(NAME), of);
            take('(');
            if (now.kind != ')') {
                link(instance);
            }
            for (int i = 0; i < STEPS_MOST && now.kind != ')'; i++) {
                take(',');
                link(instance);
            }
            take(')');
            take(';');
            meaning.finishInstance(instance);
        }

        private void link(Name instance) {
            Token dot = take('.');
            Name port = meaning.linkedPort(instance, take(NAME));
            take('(');
            Token first = now;
            int width = expression();
            boolean alone = first.kind == NAME && first.next == now;
            take(')');
            meaning.link(dot, port, first, alone, width);
        }

        private void statement() {
            switch (now.kind) {
                case BEGIN: block(); break;
                case IF: choice(); break;
                case CASE: cases(); break;
                default: setting();
            }
        }

        private void block() {
            take(BEGIN);
            for (int i = 0; i < STEPS_MOST && now.kind != END; i++) {
                statement();
            }
            take(END);
        }

        private void choice() {
            take(IF);
            take('(');
            meaning.spend(expression());
            take(')');
            statement();
            if (now.kind == ELSE) {
                take(ELSE);
                statement();
            }
            open--;
        }

        private void cases() {
            take(CASE);
            take('(');
            int width = expression();
            take(')');
            for (int i = 0; i < STEPS_MOST && now.kind == SIZED; i++) {
                meaning.caseValue(take(SIZED), width);
                for (int j = 0; j < STEPS_MOST && now.kind == ','; j++) {
                    take(',');
                    meaning.caseValue(take(SIZED), width);
                }
                take(':');
                statement();
            }
            if (now.kind == DEFAULT) {
                take(DEFAULT);
                take(':');
                statement();
            }
            take(ENDCASE);
        }

        private void setting() {
            int width = meaning.widthOf(meaning.setRegister(take(NAME)));
            if (now.kind == '[') {
                width = part(take('['), width);
            }
            Token sign = take(AT_MOST);
            verdict.check(width == expression(), WRONG_WIDTH, sign.place);
            meaning.spend(width);
            take(';');
        }

        /** From behind the bracket that begins it; width is that of the name before. */
        private int part(Token bracket, int width) {
            int high = take(PLAIN).plain();
            int low = high;
            if (now.kind == ':') {
                take(':');
                low = take(PLAIN).plain();
            }
            take(']');
            boolean right = low <= high && high < width;
            verdict.check(right, WRONG_WIDTH, bracket.place);
            return right ? high - low + 1 : 1;
        }

        /** Answers the width, as all do that read a piece of an exp. */
        private int expression() {
            Pending top = null;
            int width = operand();
            for (int i = 0; i < STEPS_MOST; i++) {
                int rank = rankOf(now.kind);
                while (top != null && rankOf(top.operator.kind) >= rank) {
                    width = meaning.binary(top.operator, top.width, width);
                    top = top.below;
                }
                if (rank == 0) {
                    break;
                }
                top = new Pending(take(now.kind), width, top);
                width = operand();
            }
            return now.kind == '?' ? conditional(width) : width;
        }

        /** 0 for what is no binary operator: all that are pending come before it. */
        private static int rankOf(int kind) {
            switch (kind) {
                case EITHER: return 1;
                case BOTH: return 2;
                case '|': return 3;
                case '^': return 4;
                case '&': return 5;
                case SAME: case OTHER: return 6;
                case '<': case AT_MOST: case '>': case AT_LEAST: return 7;
                case SHIFT_LEFT: case SHIFT_RIGHT: return 8;
                case '+': case '-': return 9;
                case '*': return 10;
                default: return 0;
            }
        }

        private int conditional(int condition) {
            Token mark = take('?');
            int first = expression();
            take(':');
            int second = expression();
            open--;
            return meaning.conditional(mark, condition, first, second);
        }

        private int operand() {
            // Unary operators wait for their operand, however many there are: it is enough to know how
            // many stand before the last one that makes the width 1, and how many from that one on.
            int before = 0;
            int since = 0;
            boolean reduced = false;
            for (int i = 0; i < STEPS_MOST && isUnary(now.kind); i++) {
                if (isReducing(now.kind)) {
                    before += since;
                    since = 0;
                    reduced = true;
                }
                since++;
                take(now.kind);
            }
            int width = 1;
            switch (now.kind) {
                case SIZED: width = take(SIZED).width; break;
                case '(': take('('); width = expression(); take(')'); break;
                case '{': width = braces(); break;
                default: width = named();
            }
            meaning.spend(since * width + before);
            return reduced ? 1 : width;
        }

        private static boolean isUnary(int kind) {
            return kind == '~' || kind == '-' || isReducing(kind);
        }

        private static boolean isReducing(int kind) {
            return kind == '!' || kind == '&' || kind == '|' || kind == '^';
        }

        private int named() {
            int width = meaning.widthOf(meaning.used(take(NAME)));
            if (now.kind != '[') {
                return width;
            }
            Token bracket = take('[');
            if (now.kind == PLAIN) {
                return part(bracket, width);
            }
            meaning.spend(Math.max(width, expression()));
            take(']');
            return 1;
        }

        private int braces() {
            Token brace = take('{');
            int width = 0;
            if (now.kind == PLAIN) {
                int times = take(PLAIN).plain();
                take('{');
                width = times * expression();
                take('}');
            } else {
                width = expression();
                for (int i = 0; i < STEPS_MOST && now.kind == ','; i++) {
                    take(',');
                    width += expression();
                }
            }
            take('}');
            return meaning.bracesWidth(brace, width);
        }
    }

    /** A binary operator whose second operand is not yet whole. */
    private static final class Pending {
        private final Token operator;
        private final int width;
        private final Pending below;

        Pending(Token operator, int width, Pending below) {
            this.operator = operator;
            this.width = width;
            this.below = below;
        }
    }

    /** Looks for the faults of meaning, and counts the cost. Behind the first fault its answers are free. */
    private static final class Meaning {
        private final Verdict verdict;
        private final ArrayList<Unit> units = new ArrayList<>();
        private Unit unit = new Unit(new Token(NAME, 0, 0), 0);

        Meaning(Verdict verdict) {
            this.verdict = verdict;
        }

        Unit unit() {
            return unit;
        }

        void beginUnit(Token name) {
            verdict.check(moduleOf(name) == null, MODULE_TWICE, name.place);
            unit = new Unit(name, units.size());
        }

        void finishUnit() {
            for (int k = 0; k < unit.names.size(); k++) {
                Name name = unit.names.get(k);
                verdict.check(name.driven || !name.isDrivable(), NOT_DRIVEN, name.place);
            }
            units.add(unit);
            if (unit.word != null) {
                unit.word.unit = unit;
            }
        }

        void spend(int cost) {
            int sum = unit.cost + cost;
            unit.cost = sum > COST_MOST ? COST_MOST + 1 : sum;
        }

        int widthOf(Name name) {
            return name == null ? 1 : name.width;
        }

        /** The module before this one that has the name. */
        private static Unit moduleOf(Token name) {
            return name.word == null ? null : name.word.unit;
        }

        int rangeWidth(Token bracket, int high, int low) {
            boolean right = low == 0 && high < WIDTH_MOST;
            verdict.check(right, WRONG_WIDTH, bracket.place);
            return right ? high + 1 : 1;
        }

        int bracesWidth(Token brace, int width) {
            boolean right = width >= 1 && width <= WIDTH_MOST;
            verdict.check(right, WRONG_WIDTH, brace.place);
            return right ? width : 1;
        }

        Name declare(Token token, int kind, int width) {
            Name name = new Name(unit, token, kind, width);
            verdict.check(declaredAs(token) == null, NAME_TWICE, token.place);
            if (token.word != null) {
                token.word.declaration = name;
            }
            unit.names.add(name);
            return name;
        }

        void begin(Name register, Token value) {
            verdict.check(register.width == value.width, WRONG_WIDTH, value.place);
            register.begins = value.value;
        }

        /** What the name is in this module. */
        private Name declaredAs(Token token) {
            Name name = token.word == null ? null : token.word.declaration;
            return name != null && name.owner == unit ? name : null;
        }

        /** Null if it can't stand in an exp, which is met here. */
        Name used(Token token) {
            Name name = declaredAs(token);
            boolean right = name != null && name.kind != AN_INSTANCE;
            verdict.check(right, WRONG_NAME, token.place);
            return right ? name : null;
        }

        Name assigned(Token token) {
            Name name = declaredAs(token);
            boolean right = name != null && name.isDrivable();
            verdict.check(right, WRONG_NAME, token.place);
            if (right) {
                drive(name, token);
            }
            return right ? name : null;
        }

        private void drive(Name name, Token token) {
            verdict.check(!name.driven, DRIVEN_TWICE, token.place);
            name.driven = true;
        }

        Name setRegister(Token token) {
            Name name = declaredAs(token);
            boolean right = name != null && name.isRegister();
            verdict.check(right, WRONG_NAME, token.place);
            if (right) {
                verdict.check(name.setIn == 0 || name.setIn == unit.always, SET_ELSEWHERE, token.place);
                name.setIn = unit.always;
            }
            return right ? name : null;
        }

        void caseValue(Token value, int width) {
            verdict.check(value.width == width, WRONG_WIDTH, value.place);
            spend(width);
        }

        int binary(Token operator, int left, int right) {
            int widest = Math.max(left, right);
            switch (operator.kind) {
                case BOTH: case EITHER:
                    spend(widest);
                    return 1;
                case SHIFT_LEFT: case SHIFT_RIGHT:
                    spend(3 * left + right);
                    return left;
                case '*':
                    verdict.check(left == right, WRONG_WIDTH, operator.place);
                    spend(widest * widest);
                    return left;
                case '+': case '-': case '&': case '|': case '^':
                    verdict.check(left == right, WRONG_WIDTH, operator.place);
                    spend(widest);
                    return left;
                default:
                    verdict.check(left == right, WRONG_WIDTH, operator.place);
                    spend(widest);
                    return 1;
            }
        }

        int conditional(Token mark, int condition, int first, int second) {
            verdict.check(first == second, WRONG_WIDTH, mark.place);
            spend(Math.max(condition, Math.max(first, second)));
            return first;
        }

        /** Null if there is no such module before this one, which is met here. */
        Unit instanced(Token token) {
            Unit of = moduleOf(token);
            verdict.check(of != null, WRONG_NAME, token.place);
            return of;
        }

        Name declareInstance(Token token, Unit of) {
            Name instance = declare(token, AN_INSTANCE, 0);
            instance.of = of;
            unit.instances++;
            return instance;
        }

        /** Null if it can't be linked, which is met here. */
        Name linkedPort(Name instance, Token token) {
            Name port = instance.of == null ? null : instance.of.portOf(token.word);
            boolean right = port != null && port.linkedBy != instance;
            verdict.check(right, WRONG_LINK, token.place);
            if (right) {
                port.linkedBy = instance;
                instance.linked++;
            }
            return right ? port : null;
        }

        void link(Token dot, Name port, Token first, boolean alone, int width) {
            if (port == null) {
                return;
            }
            Name driven = alone ? declaredAs(first) : null;
            boolean drivable = driven != null && driven.isDrivable();
            verdict.check(drivable || !port.isOutput(), NOT_DRIVABLE, first.place);
            verdict.check(port.width == width, WRONG_WIDTH, dot.place);
            if (port.isOutput() && drivable) {
                drive(driven, first);
            }
        }

        void finishInstance(Name instance) {
            boolean right = instance.of != null && instance.linked == instance.of.ports;
            verdict.check(right, NOT_LINKED, instance.place);
        }
    }
}
