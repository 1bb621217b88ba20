/**
 * Queries over JSON documents by RFC 9535. The words in capitals in the comments are those of the
 * document's chapter 'Terms'.
 */
public final class QueryBench {
    private static final int MOST_TAPE = 4096;
    private static final int MOST_RESULT = 16384;
    private static final int MOST_WORK = 10000;
    private static final int MOST_DEPTH = 32;
    private static final int MOST_OPEN = 16;
    private static final int DOCUMENTS = 4;
    private static final int BYTES_OF_A_FEED = 20;
    private static final int BYTES_OF_A_WORD = 8;
    private static final long MOST_NUMBER = 9007199254740991L;

    private final Tape tape;
    private final JsonReader jsonReader;
    private final QueryReader queryReader;
    private final Walk walk;
    private final Value[] documents;
    private Query query;
    private Printer result;
    private Printer draft;

    public QueryBench() {
        tape = new Tape();
        jsonReader = new JsonReader(tape);
        queryReader = new QueryReader(tape);
        walk = new Walk();
        documents = new Value[DOCUMENTS];
        result = new Printer();
        draft = new Printer();
    }

    public int feed(int a, int b, int c, int d, int e) throws IndexOutOfBoundsException {
        if (tape.length + BYTES_OF_A_FEED > MOST_TAPE) {
            throw new IndexOutOfBoundsException();
        }
        tape.put(a);
        tape.put(b);
        tape.put(c);
        tape.put(d);
        tape.put(e);
        return tape.length;
    }

    public int end(int n) throws IllegalArgumentException {
        if (n < 0 || n > tape.length) {
            throw new IllegalArgumentException();
        }
        tape.length = n;
        return n;
    }

    public int load(int d) throws IllegalArgumentException, UnsupportedOperationException {
        checkNumber(d);
        tape.beginReading();
        Value document = jsonReader.document();
        documents[d] = document;
        return jsonReader.deepest;
    }

    public int read() throws UnsupportedOperationException {
        tape.beginReading();
        query = queryReader.whole();
        return query.singular ? 1 : 0;
    }

    public int run(int d) throws IllegalArgumentException, IllegalStateException, IndexOutOfBoundsException {
        checkNumber(d);
        checkReady(d);
        int from = walk.begin(query, documents[d]);
        draft.length = 0;
        for (int i = from; i < walk.top; i++) {
            draft.line(walk.list[i]);
        }
        // Only here can nothing throw any more, so THE RESULT of before stays until here.
        Printer before = result;
        result = draft;
        draft = before;
        return walk.top - from;
    }

    public int work(int d) throws IllegalArgumentException, IllegalStateException, IndexOutOfBoundsException {
        checkNumber(d);
        checkReady(d);
        walk.begin(query, documents[d]);
        return walk.spent;
    }

    public long word(int i) throws IndexOutOfBoundsException {
        if (i < 0 || i >= result.length) {
            throw new IndexOutOfBoundsException();
        }
        long word = 0;
        for (int k = i; k < i + BYTES_OF_A_WORD; k++) {
            int b = k < result.length ? result.bytes[k] & 255 : 0;
            word = word << 8 | b;
        }
        return word;
    }

    public int count(int what) throws IllegalArgumentException {
        if (what < 0 || what > 2) {
            throw new IllegalArgumentException();
        }
        if (what == 0) {
            return tape.length;
        }
        return what == 1 ? result.length : tape.place;
    }

    private static void checkNumber(int d) {
        if (d < 0 || d >= DOCUMENTS) {
            throw new IllegalArgumentException();
        }
    }

    private void checkReady(int d) {
        if (documents[d] == null || query == null) {
            throw new IllegalStateException();
        }
    }

    private static boolean isDigit(int b) {
        return b >= '0' && b <= '9';
    }

    private static boolean isHighUnit(int unit) {
        return unit >= 55296 && unit <= 56319;
    }

    private static boolean isLowUnit(int unit) {
        return unit >= 56320 && unit <= 57343;
    }

    private static boolean sameText(int[] a, int[] b) {
        if (a.length != b.length) {
            return false;
        }
        for (int i = 0; i < a.length; i++) {
            if (a[i] != b[i]) {
                return false;
            }
        }
        return true;
    }

    /** THE TAPE, and the cursor with which a reader goes through it. */
    private static final class Tape {
        final byte[] bytes = new byte[MOST_TAPE];
        final int[] units = new int[MOST_TAPE];
        int unitCount;
        int length;
        int end;
        int at;
        int place = -1;

        void put(int four) {
            for (int shift = 24; shift >= 0 && length < MOST_TAPE; shift -= 8) {
                bytes[length] = (byte) (four >> shift);
                length++;
            }
        }

        /** Empties THE TAPE before it is read, so that it is empty however the reading ends. */
        void beginReading() {
            end = length;
            length = 0;
            at = 0;
            place = -1;
        }

        int here() {
            return at < end ? bytes[at] & 255 : -1;
        }

        void fail(int where) {
            place = where;
            throw new UnsupportedOperationException();
        }

        boolean takeIf(int b) {
            if (here() != b) {
                return false;
            }
            at++;
            return true;
        }

        void take(int b) {
            if (here() != b) {
                fail(at);
            }
            at++;
        }

        void takeLetters(String letters) {
            for (int i = 0; i < letters.length(); i++) {
                take(letters.charAt(i));
            }
        }

        void skipBlanks() {
            while (at < end) {
                int b = bytes[at];
                if (b != 32 && b != 9 && b != 10 && b != 13) {
                    return;
                }
                at++;
            }
        }

        /** The digits from here on; if they say too much, SYNTAX is broken at first, where the number begins. */
        long digits(int first) {
            long number = 0;
            while (at < end && isDigit(bytes[at])) {
                // Cut off just above the limit: many digits would else wrap around.
                number = Math.min(number * 10 + (bytes[at] - '0'), MOST_NUMBER + 1);
                at++;
            }
            if (number > MOST_NUMBER) {
                fail(first);
            }
            return number;
        }

        /** The UNITS between the quote that is here and the next one like it. */
        int[] quoted() {
            int quote = here();
            at++;
            unitCount = 0;
            for (int n = 0; n < MOST_TAPE && here() != quote; n++) {
                character(quote);
            }
            take(quote);
            int[] text = new int[unitCount];
            System.arraycopy(units, 0, text, 0, unitCount);
            return text;
        }

        private void character(int quote) {
            int first = at;
            int b = here();
            if (b < 32 || b > 126) {
                fail(first);
            }
            if (b != '\\') {
                at++;
                keep(b);
                return;
            }
            int unit = escape(quote);
            if (unit < 0 || isLowUnit(unit)) {
                fail(first);
            }
            keep(unit);
            if (isHighUnit(unit)) {
                int second = here() == '\\' ? escape(quote) : -1;
                if (!isLowUnit(second)) {
                    fail(first);
                }
                keep(second);
            }
        }

        private void keep(int unit) {
            if (unitCount < units.length) {
                units[unitCount] = unit;
                unitCount++;
            }
        }

        /** Goes over a \ and what belongs to it; the UNIT that they stand for, or -1. */
        private int escape(int quote) {
            at++;
            int letter = here();
            at++;
            if (letter == quote || letter == '\\' || letter == '/') {
                return letter;
            }
            switch (letter) {
                case 'b':
                    return 8;
                case 't':
                    return 9;
                case 'n':
                    return 10;
                case 'f':
                    return 12;
                case 'r':
                    return 13;
                case 'u':
                    return fourHexDigits();
                default:
                    return -1;
            }
        }

        /** Asks no other method: it is the last one of the longest way that calls go. */
        private int fourHexDigits() {
            int unit = 0;
            for (int i = 0; i < 4; i++) {
                int b = at < end ? bytes[at] : -1;
                int digit = b >= '0' && b <= '9' ? b - '0'
                        : b >= 'a' && b <= 'f' ? b - 'a' + 10
                        : b >= 'A' && b <= 'F' ? b - 'A' + 10 : -1;
                if (digit < 0) {
                    return -1;
                }
                unit = unit * 16 + digit;
                at++;
            }
            return unit;
        }
    }

    /** A VALUE, with its way up to the DOCUMENT and with the VALUE that comes next in the whole of it. */
    private static final class Value {
        static final int NULL = 0;
        static final int FALSE = 1;
        static final int TRUE = 2;
        static final int NUMBER = 3;
        static final int STRING = 4;
        static final int ARRAY = 5;
        static final int OBJECT = 6;

        int kind;
        long number;
        int[] text;
        Value[] members;
        Value parent;
        int[] name;
        int index;
        Value nextMember;
        Value nextOfAll;
        int span;

        Value(int kind) {
            this.kind = kind;
        }

        int size() {
            return members == null ? 0 : members.length;
        }

        Value member(int[] wanted) {
            if (kind != OBJECT) {
                return null;
            }
            for (int i = 0; i < size(); i++) {
                if (sameText(members[i].name, wanted)) {
                    return members[i];
                }
            }
            return null;
        }

        /** How many CHARACTERS or members; -1 where there is no length. */
        int measure() {
            if (kind == ARRAY || kind == OBJECT) {
                return size();
            }
            if (kind != STRING) {
                return -1;
            }
            int characters = 0;
            for (int i = 0; i < text.length; i++) {
                if (!isLowUnit(text[i])) {
                    characters++;
                }
            }
            return characters;
        }

        /** Both may be null, which is NOTHING. */
        static boolean same(Value a, Value b) {
            if (a == null || b == null) {
                return a == null && b == null;
            }
            return sameFrom(a, b, 0);
        }

        private static boolean sameFrom(Value a, Value b, int depth) {
            if (a.kind != b.kind || a.size() != b.size() || depth > MOST_DEPTH) {
                return false;
            }
            if (a.kind == NUMBER) {
                return a.number == b.number;
            }
            if (a.kind == STRING) {
                return sameText(a.text, b.text);
            }
            for (int i = 0; i < a.size(); i++) {
                Value other = a.kind == ARRAY ? b.members[i] : b.member(a.members[i].name);
                if (other == null || !sameFrom(a.members[i], other, depth + 1)) {
                    return false;
                }
            }
            return true;
        }

        static boolean less(Value a, Value b) {
            if (a == null || b == null || a.kind != b.kind) {
                return false;
            }
            if (a.kind == NUMBER) {
                return a.number < b.number;
            }
            return a.kind == STRING && lessText(a.text, b.text);
        }

        private static boolean lessText(int[] a, int[] b) {
            int shorter = Math.min(a.length, b.length);
            for (int i = 0; i < shorter; i++) {
                if (a[i] != b[i]) {
                    return rank(a[i]) < rank(b[i]);
                }
            }
            return a.length < b.length;
        }

        /** Pairs are CHARACTERS above all single UNITS, though their UNITS are not the highest. */
        private static int rank(int unit) {
            return isHighUnit(unit) || isLowUnit(unit) ? unit + 65536 : unit;
        }
    }

    /** Reads a DOCUMENT. */
    private static final class JsonReader {
        final Tape tape;
        int deepest;
        private int made;
        private Value latest;

        JsonReader(Tape tape) {
            this.tape = tape;
        }

        Value document() {
            deepest = 0;
            made = 0;
            latest = null;
            Value it = value(0);
            if (tape.at < tape.end) {
                tape.fail(tape.at);
            }
            return it;
        }

        private Value value(int depth) {
            tape.skipBlanks();
            int before = made;
            Value it = fresh();
            switch (tape.here()) {
                case '[':
                    container(it, Value.ARRAY, depth);
                    break;
                case '{':
                    container(it, Value.OBJECT, depth);
                    break;
                case '"':
                    it.kind = Value.STRING;
                    it.text = tape.quoted();
                    break;
                case 'n':
                    tape.takeLetters("null");
                    break;
                case 'f':
                    tape.takeLetters("false");
                    it.kind = Value.FALSE;
                    break;
                case 't':
                    tape.takeLetters("true");
                    it.kind = Value.TRUE;
                    break;
                default:
                    it.kind = Value.NUMBER;
                    it.number = number();
                    break;
            }
            it.span = made - before;
            tape.skipBlanks();
            return it;
        }

        private Value fresh() {
            Value it = new Value(Value.NULL);
            if (latest != null) {
                latest.nextOfAll = it;
            }
            latest = it;
            made++;
            return it;
        }

        private long number() {
            int first = tape.at;
            boolean negative = tape.takeIf('-');
            if (!isDigit(tape.here())) {
                tape.fail(tape.at);
            }
            long size = tape.takeIf('0') ? 0 : tape.digits(first);
            int behind = tape.here();
            if (behind == '.' || behind == 'e' || behind == 'E') {
                tape.fail(first);
            }
            return negative ? -size : size;
        }

        private void container(Value it, int kind, int depth) {
            if (depth >= MOST_DEPTH) {
                tape.fail(tape.at);
            }
            it.kind = kind;
            deepest = Math.max(deepest, depth + 1);
            tape.at++;
            tape.skipBlanks();
            int close = kind == Value.ARRAY ? ']' : '}';
            if (!tape.takeIf(close)) {
                members(it, depth + 1);
                tape.take(close);
            }
        }

        private void members(Value it, int depth) {
            Value first = null;
            Value last = null;
            int size = 0;
            boolean more = true;
            for (int n = 0; n < MOST_TAPE && more; n++) {
                int[] name = it.kind == Value.OBJECT ? newName(first) : null;
                Value member = value(depth);
                member.parent = it;
                member.name = name;
                member.index = size;
                size++;
                if (last == null) {
                    first = member;
                } else {
                    last.nextMember = member;
                }
                last = member;
                more = tape.takeIf(',');
            }
            it.members = row(first, size);
        }

        private int[] newName(Value first) {
            tape.skipBlanks();
            int start = tape.at;
            if (tape.here() != '"') {
                tape.fail(start);
            }
            int[] name = tape.quoted();
            for (Value m = first; m != null; m = m.nextMember) {
                if (sameText(m.name, name)) {
                    tape.fail(start);
                }
            }
            tape.skipBlanks();
            tape.take(':');
            return name;
        }

        private static Value[] row(Value first, int size) {
            Value[] row = new Value[size];
            int n = 0;
            for (Value m = first; m != null && n < size; m = m.nextMember) {
                row[n] = m;
                n++;
            }
            return row;
        }
    }

    /** A QUERY; the SEGMENTS are a chain. */
    private static final class Query {
        final boolean fromRoot;
        boolean singular = true;
        Segment first;
        private Segment last;

        Query(boolean fromRoot) {
            this.fromRoot = fromRoot;
        }

        void add(Segment segment) {
            if (last == null) {
                first = segment;
            } else {
                last.next = segment;
            }
            last = segment;
            singular = singular && segment.isSingular();
        }
    }

    private static final class Segment {
        boolean descends;
        Selector first;
        Segment next;

        boolean isSingular() {
            return !descends && first.next == null
                    && (first.kind == Selector.NAME || first.kind == Selector.INDEX);
        }
    }

    /** A SELECTOR; an index stands in start. */
    private static final class Selector {
        static final int NAME = 0;
        static final int ALL = 1;
        static final int INDEX = 2;
        static final int SLICE = 3;
        static final int FILTER = 4;

        int kind;
        int[] name;
        boolean hasStart;
        boolean hasStop;
        long start;
        long stop;
        long step = 1;
        Condition filter;
        Selector next;

        Selector(int kind) {
            this.kind = kind;
        }
    }

    /** What a filter asks: OR, AND, BASIC. Those that || or && join, or the one behind !, are a chain from first on. */
    private static final class Condition {
        static final int OR = 0;
        static final int AND = 1;
        static final int NOT = 2;
        static final int TEST = 3;
        static final int SAME = 4;
        static final int OTHER = 5;
        static final int LESS = 6;
        static final int LESS_OR_SAME = 7;
        static final int MORE = 8;
        static final int MORE_OR_SAME = 9;

        final int kind;
        Condition first;
        Condition next;
        Query query;
        Operand left;
        Operand right;

        Condition(int kind) {
            this.kind = kind;
        }
    }

    /** A C. What count and length answer is put into value, so that a run makes no objects. */
    private static final class Operand {
        static final int WRITTEN = 0;
        static final int ONLY_NODE = 1;
        static final int COUNT = 2;
        static final int LENGTH = 3;

        final int kind;
        final Value value;
        Query query;
        Operand inner;

        Operand(int kind, Value value) {
            this.kind = kind;
            this.value = value;
        }
    }

    /** Reads a QUERY. Every way back into the same method goes through a ( or [, of which only 16 may be open. */
    private static final class QueryReader {
        final Tape tape;
        private int open;

        QueryReader(Tape tape) {
            this.tape = tape;
        }

        Query whole() {
            open = 0;
            if (tape.here() != '$') {
                tape.fail(tape.at);
            }
            Query it = query(false);
            if (tape.at < tape.end) {
                tape.skipBlanks();
                tape.fail(tape.at);
            }
            return it;
        }

        /** From the $ or @ that is here on; narrow: read as SINGULAR. Leaves blanks with no SEGMENT behind them. */
        private Query query(boolean narrow) {
            Query it = new Query(tape.here() == '$');
            tape.at++;
            for (int n = 0; n < MOST_TAPE; n++) {
                int behind = tape.at;
                tape.skipBlanks();
                if (tape.here() != '.' && tape.here() != '[') {
                    tape.at = behind;
                    return it;
                }
                it.add(segment(narrow));
            }
            return it;
        }

        private Segment segment(boolean narrow) {
            Segment it = new Segment();
            boolean dotted = tape.takeIf('.');
            it.descends = dotted && !narrow && tape.takeIf('.');
            boolean bracketed = !dotted || it.descends && tape.here() == '[';
            it.first = bracketed ? selectors(narrow) : shortSelector(narrow);
            return it;
        }

        private Selector shortSelector(boolean narrow) {
            if (!narrow && tape.takeIf('*')) {
                return new Selector(Selector.ALL);
            }
            Selector it = new Selector(Selector.NAME);
            int from = tape.at;
            if (!isNameByte(tape.here()) || isDigit(tape.here())) {
                tape.fail(from);
            }
            while (tape.at < tape.end && isNameByte(tape.here())) {
                tape.at++;
            }
            it.name = new int[tape.at - from];
            for (int i = 0; i < it.name.length; i++) {
                it.name[i] = tape.bytes[from + i];
            }
            return it;
        }

        private static boolean isNameByte(int b) {
            return b >= 'a' && b <= 'z' || b >= 'A' && b <= 'Z' || b == '_' || isDigit(b);
        }

        private Selector selectors(boolean narrow) {
            takeOpening('[');
            Selector first = selector(narrow);
            Selector last = first;
            for (int n = 0; n < MOST_TAPE && !narrow && tape.takeIf(','); n++) {
                last.next = selector(narrow);
                last = last.next;
            }
            takeClosing(']');
            return first;
        }

        private Selector selector(boolean narrow) {
            tape.skipBlanks();
            Selector it = new Selector(Selector.INDEX);
            if (isQuote(tape.here())) {
                it.kind = Selector.NAME;
                it.name = tape.quoted();
            } else if (!narrow && tape.takeIf('*')) {
                it.kind = Selector.ALL;
            } else if (!narrow && tape.takeIf('?')) {
                it.kind = Selector.FILTER;
                it.filter = or();
            } else if (!narrow && tape.here() == ':') {
                slice(it);
            } else {
                it.start = integer();
                it.hasStart = true;
                tape.skipBlanks();
                if (!narrow && tape.here() == ':') {
                    slice(it);
                }
            }
            tape.skipBlanks();
            return it;
        }

        /** From the first : of a slice on. */
        private void slice(Selector it) {
            it.kind = Selector.SLICE;
            tape.at++;
            tape.skipBlanks();
            if (beginsInteger(tape.here())) {
                it.stop = integer();
                it.hasStop = true;
                tape.skipBlanks();
            }
            if (tape.takeIf(':')) {
                tape.skipBlanks();
                if (beginsInteger(tape.here())) {
                    it.step = integer();
                }
            }
        }

        private long integer() {
            int first = tape.at;
            boolean negative = tape.takeIf('-');
            if (!negative && tape.takeIf('0')) {
                return 0;
            }
            if (!isDigit(tape.here()) || tape.here() == '0') {
                tape.fail(tape.at);
            }
            long size = tape.digits(first);
            return negative ? -size : size;
        }

        private Condition or() {
            Condition first = and();
            if (tape.here() != '|') {
                return first;
            }
            Condition it = new Condition(Condition.OR);
            it.first = first;
            Condition last = first;
            for (int n = 0; n < MOST_TAPE && tape.takeIf('|'); n++) {
                tape.take('|');
                last.next = and();
                last = last.next;
            }
            return it;
        }

        private Condition and() {
            Condition first = basic();
            if (tape.here() != '&') {
                return first;
            }
            Condition it = new Condition(Condition.AND);
            it.first = first;
            Condition last = first;
            for (int n = 0; n < MOST_TAPE && tape.takeIf('&'); n++) {
                tape.take('&');
                last.next = basic();
                last = last.next;
            }
            return it;
        }

        private Condition basic() {
            tape.skipBlanks();
            Condition it;
            if (tape.here() == '!') {
                it = negation();
            } else if (tape.here() == '(') {
                it = group();
            } else if (beginsQuery(tape.here())) {
                it = testOrComparison();
            } else {
                Operand left = operand();
                tape.skipBlanks();
                it = comparison(left);
            }
            tape.skipBlanks();
            return it;
        }

        private Condition negation() {
            tape.at++;
            tape.skipBlanks();
            Condition it = new Condition(Condition.NOT);
            if (tape.here() == '(') {
                it.first = group();
            } else {
                it.first = new Condition(Condition.TEST);
                it.first.query = anyQuery();
            }
            return it;
        }

        private Condition group() {
            takeOpening('(');
            Condition it = or();
            takeClosing(')');
            return it;
        }

        private Query anyQuery() {
            if (!beginsQuery(tape.here())) {
                tape.fail(tape.at);
            }
            return query(false);
        }

        private Condition testOrComparison() {
            Query query = query(false);
            tape.skipBlanks();
            int b = tape.here();
            if (b != '=' && b != '!' && b != '<' && b != '>') {
                Condition it = new Condition(Condition.TEST);
                it.query = query;
                return it;
            }
            if (!query.singular) {
                tape.fail(tape.at);
            }
            Operand left = new Operand(Operand.ONLY_NODE, null);
            left.query = query;
            return comparison(left);
        }

        private Condition comparison(Operand left) {
            Condition it = new Condition(operator());
            tape.skipBlanks();
            it.left = left;
            it.right = operand();
            return it;
        }

        private int operator() {
            if (tape.takeIf('<')) {
                return tape.takeIf('=') ? Condition.LESS_OR_SAME : Condition.LESS;
            }
            if (tape.takeIf('>')) {
                return tape.takeIf('=') ? Condition.MORE_OR_SAME : Condition.MORE;
            }
            int kind = tape.takeIf('!') ? Condition.OTHER : Condition.SAME;
            if (kind == Condition.SAME) {
                tape.take('=');
            }
            tape.take('=');
            return kind;
        }

        private Operand operand() {
            int b = tape.here();
            if (beginsQuery(b)) {
                Operand it = new Operand(Operand.ONLY_NODE, null);
                it.query = query(true);
                return it;
            }
            switch (b) {
                case 'l':
                    return lengthOperand();
                case 'c':
                    return queryOperand("count", new Operand(Operand.COUNT, new Value(Value.NUMBER)));
                case 'v':
                    return queryOperand("value", new Operand(Operand.ONLY_NODE, null));
                default:
                    return new Operand(Operand.WRITTEN, written());
            }
        }

        private Operand lengthOperand() {
            tape.takeLetters("length");
            takeOpening('(');
            tape.skipBlanks();
            Operand it = new Operand(Operand.LENGTH, new Value(Value.NUMBER));
            it.inner = operand();
            tape.skipBlanks();
            takeClosing(')');
            return it;
        }

        private Operand queryOperand(String letters, Operand it) {
            tape.takeLetters(letters);
            takeOpening('(');
            tape.skipBlanks();
            it.query = anyQuery();
            tape.skipBlanks();
            takeClosing(')');
            return it;
        }

        private Value written() {
            int b = tape.here();
            if (b == 't') {
                tape.takeLetters("true");
                return new Value(Value.TRUE);
            }
            if (b == 'f') {
                tape.takeLetters("false");
                return new Value(Value.FALSE);
            }
            if (b == 'n') {
                tape.takeLetters("null");
                return new Value(Value.NULL);
            }
            if (isQuote(b)) {
                Value text = new Value(Value.STRING);
                text.text = tape.quoted();
                return text;
            }
            Value number = new Value(Value.NUMBER);
            number.number = integer();
            return number;
        }

        private void takeOpening(int b) {
            if (open >= MOST_OPEN) {
                tape.fail(tape.at);
            }
            tape.take(b);
            open++;
        }

        private void takeClosing(int b) {
            tape.take(b);
            open--;
        }

        private static boolean isQuote(int b) {
            return b == '\'' || b == '"';
        }

        private static boolean beginsQuery(int b) {
            return b == '@' || b == '$';
        }

        private static boolean beginsInteger(int b) {
            return b == '-' || isDigit(b);
        }
    }

    /**
     * Runs a QUERY. How deep its methods call one another follows from how deep the QUERY is, and
     * the reader refuses more than 16 ( and [ one within another.
     */
    private static final class Walk {
        // Whatever comes into the list is WORK, so it never needs more room than this.
        final Value[] list = new Value[MOST_WORK];
        int top;
        int spent;
        private Value root;

        /** Answers where the NODES begin; they end at top. */
        int begin(Query query, Value document) {
            root = document;
            top = 0;
            spent = 0;
            return nodes(query, document);
        }

        private int nodes(Query query, Value current) {
            int from = top;
            push(query.fromRoot ? root : current);
            for (Segment s = query.first; s != null; s = s.next) {
                int to = top;
                for (int i = from; i < to; i++) {
                    step(s, list[i]);
                }
                from = to;
            }
            return from;
        }

        private void spend() {
            if (spent >= MOST_WORK) {
                throw new IndexOutOfBoundsException();
            }
            spent++;
        }

        private void push(Value node) {
            spend();
            list[top] = node;
            top++;
        }

        private void step(Segment segment, Value node) {
            if (!segment.descends) {
                choose(segment, node);
                return;
            }
            Value each = node;
            for (int i = 0; i < node.span && each != null; i++) {
                spend();
                choose(segment, each);
                each = each.nextOfAll;
            }
        }

        private void choose(Segment segment, Value node) {
            for (Selector s = segment.first; s != null; s = s.next) {
                switch (s.kind) {
                    case Selector.NAME:
                        pushNamed(node, s.name);
                        break;
                    case Selector.ALL:
                        pushAll(node);
                        break;
                    case Selector.INDEX:
                        pushAt(node, s.start);
                        break;
                    case Selector.SLICE:
                        pushSlice(node, s);
                        break;
                    default:
                        pushFiltered(node, s.filter);
                        break;
                }
            }
        }

        private void pushNamed(Value node, int[] name) {
            Value member = node.member(name);
            if (member != null) {
                push(member);
            }
        }

        private void pushAll(Value node) {
            for (int i = 0; i < node.size(); i++) {
                push(node.members[i]);
            }
        }

        private void pushAt(Value node, long index) {
            long i = index < 0 ? index + node.size() : index;
            if (node.kind == Value.ARRAY && i >= 0 && i < node.size()) {
                push(node.members[(int) i]);
            }
        }

        private void pushSlice(Value node, Selector s) {
            if (node.kind != Value.ARRAY || s.step == 0) {
                return;
            }
            int size = node.size();
            if (s.step > 0) {
                long stop = s.hasStop ? cut(s.stop, size, 0, size) : size;
                for (long i = s.hasStart ? cut(s.start, size, 0, size) : 0; i < stop; i += s.step) {
                    push(node.members[(int) i]);
                }
            } else {
                long stop = s.hasStop ? cut(s.stop, size, -1, size - 1) : -1;
                for (long i = s.hasStart ? cut(s.start, size, -1, size - 1) : size - 1; i > stop; i += s.step) {
                    push(node.members[(int) i]);
                }
            }
        }

        private static long cut(long bound, int size, int least, int most) {
            long fromFront = bound < 0 ? bound + size : bound;
            return Math.max(least, Math.min(most, fromFront));
        }

        private void pushFiltered(Value node, Condition filter) {
            for (int i = 0; i < node.size(); i++) {
                spend();
                if (holds(filter, node.members[i])) {
                    push(node.members[i]);
                }
            }
        }

        private boolean holds(Condition c, Value current) {
            switch (c.kind) {
                case Condition.OR:
                    return anyHolds(c.first, current);
                case Condition.AND:
                    return allHold(c.first, current);
                case Condition.NOT:
                    return !holds(c.first, current);
                case Condition.TEST:
                    return nodeCount(c.query, current) > 0;
                default:
                    return compares(c, current);
            }
        }

        private boolean anyHolds(Condition first, Value current) {
            for (Condition c = first; c != null; c = c.next) {
                if (holds(c, current)) {
                    return true;
                }
            }
            return false;
        }

        private boolean allHold(Condition first, Value current) {
            for (Condition c = first; c != null; c = c.next) {
                if (!holds(c, current)) {
                    return false;
                }
            }
            return true;
        }

        private boolean compares(Condition c, Value current) {
            Value left = valueOf(c.left, current);
            Value right = valueOf(c.right, current);
            switch (c.kind) {
                case Condition.SAME:
                    return Value.same(left, right);
                case Condition.OTHER:
                    return !Value.same(left, right);
                case Condition.LESS:
                    return Value.less(left, right);
                case Condition.LESS_OR_SAME:
                    return Value.less(left, right) || Value.same(left, right);
                case Condition.MORE:
                    return Value.less(right, left);
                default:
                    return Value.less(right, left) || Value.same(left, right);
            }
        }

        /** The VALUE of a C, or null for NOTHING. */
        private Value valueOf(Operand operand, Value current) {
            switch (operand.kind) {
                case Operand.ONLY_NODE:
                    return onlyNode(operand.query, current);
                case Operand.COUNT:
                    operand.value.number = nodeCount(operand.query, current);
                    return operand.value;
                case Operand.LENGTH:
                    Value inner = valueOf(operand.inner, current);
                    operand.value.number = inner == null ? -1 : inner.measure();
                    return operand.value.number < 0 ? null : operand.value;
                default:
                    return operand.value;
            }
        }

        private int nodeCount(Query query, Value current) {
            int before = top;
            int from = nodes(query, current);
            int found = top - from;
            // What a filter's QUERY has left must go: the list below goes on where it was.
            top = before;
            return found;
        }

        private Value onlyNode(Query query, Value current) {
            int before = top;
            int from = nodes(query, current);
            Value only = top - from == 1 ? list[from] : null;
            top = before;
            return only;
        }
    }

    /** Prints NODES; more than THE RESULT holds is refused. */
    private static final class Printer {
        final byte[] bytes = new byte[MOST_RESULT];
        int length;
        private final Value[] steps = new Value[MOST_DEPTH];

        void line(Value node) {
            path(node);
            put(' ');
            value(node, 0);
            put('\n');
        }

        private void put(int b) {
            if (length >= MOST_RESULT) {
                throw new IndexOutOfBoundsException();
            }
            bytes[length] = (byte) b;
            length++;
        }

        private void putLetters(String letters) {
            for (int i = 0; i < letters.length(); i++) {
                put(letters.charAt(i));
            }
        }

        private void path(Value node) {
            int depth = 0;
            for (Value v = node; v.parent != null && depth < MOST_DEPTH; v = v.parent) {
                steps[depth] = v;
                depth++;
            }
            put('$');
            for (int i = depth - 1; i >= 0; i--) {
                put('[');
                if (steps[i].name == null) {
                    number(steps[i].index);
                } else {
                    text(steps[i].name, '\'');
                }
                put(']');
            }
        }

        private void value(Value v, int depth) {
            switch (v.kind) {
                case Value.NULL:
                    putLetters("null");
                    break;
                case Value.FALSE:
                    putLetters("false");
                    break;
                case Value.TRUE:
                    putLetters("true");
                    break;
                case Value.NUMBER:
                    number(v.number);
                    break;
                case Value.STRING:
                    text(v.text, '"');
                    break;
                default:
                    members(v, depth);
                    break;
            }
        }

        private void members(Value v, int depth) {
            boolean named = v.kind == Value.OBJECT;
            put(named ? '{' : '[');
            for (int i = 0; i < v.size() && depth < MOST_DEPTH; i++) {
                if (i > 0) {
                    put(',');
                }
                if (named) {
                    text(v.members[i].name, '"');
                    put(':');
                }
                value(v.members[i], depth + 1);
            }
            put(named ? '}' : ']');
        }

        private void number(long n) {
            long size = n < 0 ? -n : n;
            if (n < 0) {
                put('-');
            }
            long unit = 1;
            while (unit <= size / 10) {
                unit *= 10;
            }
            while (unit > 0) {
                put('0' + (int) (size / unit % 10));
                unit /= 10;
            }
        }

        private void text(int[] units, int quote) {
            put(quote);
            for (int i = 0; i < units.length; i++) {
                unit(units[i], quote);
            }
            put(quote);
        }

        private void unit(int unit, int quote) {
            int letter = shortEscape(unit, quote);
            if (letter != 0) {
                put('\\');
                put(letter);
            } else if (unit >= 32 && unit <= 126) {
                put(unit);
            } else {
                putLetters("\\u");
                for (int shift = 12; shift >= 0; shift -= 4) {
                    put("0123456789abcdef".charAt(unit >> shift & 15));
                }
            }
        }

        /** The byte that stands behind \ for a UNIT, 0 if none does. */
        private static int shortEscape(int unit, int quote) {
            switch (unit) {
                case 8:
                    return 'b';
                case 9:
                    return 't';
                case 10:
                    return 'n';
                case 12:
                    return 'f';
                case 13:
                    return 'r';
                default:
                    return unit == quote || unit == '\\' ? unit : 0;
            }
        }
    }
}
