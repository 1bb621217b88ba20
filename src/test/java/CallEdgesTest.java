/** Every sentence of the document that names an edge of the calls: ranges, what is full or empty, what throws and what stays. */
public final class CallEdgesTest {
    private static final int[] OUTSIDE = {-1, 4, 5, -4, 256, -256, Integer.MIN_VALUE, Integer.MAX_VALUE};
    private static final int BLANKS = 0x20202020;

    public static void main(String[] args) {
        nothingIsThere();
        bytesOfFeed();
        fullTape();
        feedAnswers();
        endInRange();
        endOutOfRange();
        keptBytes();
        bytesThatAreNotKept();
        documentsInRange();
        documentsAreThereOrNot();
        brokenLoad();
        brokenRead();
        emptyAfterReading();
        outOfRangeKeepsTheTape();
        wordInRange();
        wordOutOfRange();
        countOfTapeAndResult();
        countOfPlace();
        countOutOfRange();
        noSuchDocument();
        noQuery();
        argumentBeforeState();
        throwingChangesNothing();
        fiveHundredAndTwelveCalls();
        Bench.finish();
    }

    private static void feedBlanks(Bench b, int times) {
        for (int i = 0; i < times; i++) {
            b.x.feed(BLANKS, BLANKS, BLANKS, BLANKS, BLANKS);
        }
    }

    private static String feed(Bench b) {
        return Bench.outcome(() -> b.x.feed(BLANKS, BLANKS, BLANKS, BLANKS, BLANKS));
    }

    private static void nothingIsThere() {
        Bench.sentence("QueryBench(): Nothing is there.");
        Bench b = new Bench();
        Bench.due("bytes of THE TAPE", b.x.count(0), 0);
        Bench.due("bytes of THE RESULT", b.x.count(1), 0);
        Bench.due("PLACE", b.x.count(2), -1);
        for (int d = 0; d < 4; d++) {
            int document = d;
            Bench.due("run " + d, b.run(document), Bench.STATE);
            Bench.due("work " + d, b.work(document), Bench.STATE);
        }
        for (int i = -1; i <= 16; i++) {
            int at = i;
            Bench.due("word " + i, Bench.outcome(() -> b.x.word(at)), Bench.INDEX);
        }
        Bench.due("end(1)", Bench.outcome(() -> b.x.end(1)), Bench.ARGUMENT);
        Bench.due("end(0)", Bench.outcome(() -> b.x.end(0)), "0");
        Bench.due("load of an empty TAPE", Bench.outcome(() -> b.x.load(0)), Bench.SYNTAX);
        Bench.due("its place", b.place(), 0);
        Bench c = new Bench();
        Bench.due("read of an empty TAPE", Bench.outcome(() -> c.x.read()), Bench.SYNTAX);
        Bench.due("its place", c.place(), 0);
        // One object has nothing of another.
        Bench other = Bench.ready("1", "$");
        other.run(0);
        Bench.due("a new one beside it", new Bench().run(0), Bench.STATE);
    }

    private static void bytesOfFeed() {
        Bench.sentence("The 20 bytes of five ints, the highest of each first, come to the TAPE");
        Bench b = new Bench();
        b.x.feed(0x22303132, 0x33343536, 0x37383941, 0x42434445, 0x46474822);
        b.x.load(0);
        b.read("$");
        b.run(0);
        Bench.due("in their order", b.result(), "$ \"0123456789ABCDEFGH\"\n");
        // A byte above 127 makes the int negative, and must not touch those beside it.
        for (int at = 0; at < 20; at++) {
            for (int high : new int[] {0x80, 0xff, 0xa0, 0x9f}) {
                int[] five = {BLANKS, BLANKS, BLANKS, BLANKS, BLANKS};
                int shift = 24 - at % 4 * 8;
                five[at / 4] = BLANKS & ~(0xff << shift) | high << shift;
                Bench c = new Bench();
                c.x.feed(five[0], five[1], five[2], five[3], five[4]);
                Bench.due("a byte " + high, Bench.outcome(() -> c.x.load(0)), Bench.SYNTAX);
                Bench.due("its place", c.place(), at);
            }
        }
        Bench zeros = new Bench();
        Bench.due("zeros are bytes too", zeros.x.feed(0, 0, 0, 0, 0), 20);
        Bench ones = new Bench();
        Bench.due("so are all ones", ones.x.feed(-1, -1, -1, -1, -1), 20);
    }

    private static void fullTape() {
        Bench.sentence("it would have more than 4096: IndexOutOfBoundsException");
        for (int length = 4070; length <= 4080; length++) {
            Bench b = new Bench();
            feedBlanks(b, 204);
            b.x.end(length);
            boolean fits = length + 20 <= 4096;
            Bench.due("feed behind " + length, feed(b), fits ? Integer.toString(length + 20) : Bench.INDEX);
            Bench.due("its length", b.x.count(0), fits ? length + 20 : length);
            Bench.due("feed once more", feed(b), Bench.INDEX);
            Bench.due("its length", b.x.count(0), fits ? length + 20 : length);
        }
        Bench full = new Bench();
        feedBlanks(full, 204);
        full.x.end(4076);
        feedBlanks(full, 1);
        for (int length = 4096; length > 4076; length--) {
            Bench.due("feed behind " + length, feed(full), Bench.INDEX);
            full.x.end(length - 1);
        }
        Bench.due("feed behind 4076", feed(full), "4096");
        // What did not fit has left nothing.
        Bench kept = new Bench();
        kept.tape("1" + Bench.repeat(" ", 4090));
        Bench.due("too much", Bench.outcome(() -> kept.x.feed(0x78787878, 0x78787878, 0x78787878, 0x78787878, 0x78787878)), Bench.INDEX);
        Bench.due("its length", kept.x.count(0), 4091);
        Bench.due("load", Bench.outcome(() -> kept.x.load(0)), "0");
        Bench.due("there is room again", feed(kept), "20");
    }

    private static void feedAnswers() {
        Bench.sentence("Answers its length.");
        Bench b = new Bench();
        for (int i = 1; i <= 204; i++) {
            Bench.due("feed " + i, feed(b), Integer.toString(20 * i));
        }
        b.x.end(7);
        Bench.due("behind seven", feed(b), "27");
        b.x.end(0);
        Bench.due("behind none", feed(b), "20");
    }

    private static void endInRange() {
        Bench.sentence("The TAPE keeps its first n bytes, n 0 .. its length. Answers n.");
        Bench b = new Bench();
        feedBlanks(b, 1);
        for (int n = 20; n >= 0; n--) {
            int kept = n;
            Bench.due("end(" + n + ")", Bench.outcome(() -> b.x.end(kept)), Integer.toString(n));
            Bench.due("again", Bench.outcome(() -> b.x.end(kept)), Integer.toString(n));
            Bench.due("its length", b.x.count(0), n);
        }
        Bench full = new Bench();
        feedBlanks(full, 204);
        full.x.end(4076);
        feedBlanks(full, 1);
        Bench.due("all of a full one", Bench.outcome(() -> full.x.end(4096)), "4096");
        Bench.due("one more", Bench.outcome(() -> full.x.end(4097)), Bench.ARGUMENT);
        Bench.due("one less", Bench.outcome(() -> full.x.end(4095)), "4095");
        Bench.due("none", Bench.outcome(() -> full.x.end(0)), "0");
    }

    private static void endOutOfRange() {
        Bench.sentence("n 0 .. its length; IllegalArgumentException: a number out of range");
        Bench b = new Bench();
        for (int length : new int[] {0, 20, 19, 3}) {
            b.x.end(0);
            feedBlanks(b, 1);
            b.x.end(length);
            for (int n : new int[] {-1, length + 1, length + 20, 4096, 4097, Integer.MIN_VALUE, Integer.MAX_VALUE}) {
                Bench.due("end(" + n + ") of " + length, Bench.outcome(() -> b.x.end(n)), Bench.ARGUMENT);
                Bench.due("its length stays", b.x.count(0), length);
            }
        }
    }

    private static void keptBytes() {
        Bench.sentence("The TAPE keeps its first n bytes");
        for (int n = 1; n <= 9; n++) {
            Bench b = new Bench();
            b.x.feed(0x31323334, 0x35363738, 0x39303132, 0x33343536, 0x37383930);
            b.x.end(n);
            Bench.due("load", Bench.outcome(() -> b.x.load(0)), "0");
            b.read("$");
            b.run(0);
            Bench.due("the first " + n, b.result(), "$ " + "123456789".substring(0, n) + "\n");
        }
        Bench b = new Bench();
        b.x.feed(0x31323334, 0x35363738, 0x39303132, 0x33343536, 0x37383930);
        b.x.end(2);
        b.x.feed(0x33202020, BLANKS, BLANKS, BLANKS, BLANKS);
        b.x.load(0);
        b.read("$");
        b.run(0);
        Bench.due("and what comes behind them", b.result(), "$ 123\n");
    }

    /** What stood behind the end is as if it had never been there. */
    private static void bytesThatAreNotKept() {
        Bench.sentence("The TAPE keeps its first n bytes");
        for (String text : new String[] {
            "{\"a\\u0041b\\ud83d\\ude00\\n\" : [ -120 , 9007199254740992] , \"a\\u0041b\": null}", "[[], true , false\t, {} ]\n",
            "\"\\u00410000\"", "0.5", "-12e3", "9007199254740992"}) {
            for (int n = 0; n <= text.length(); n++) {
                Bench b = cutOff(text, n);
                Bench.due("load " + n + " of " + text, b.told(Bench.outcome(() -> b.x.load(0))), Bench.json(text.substring(0, n)));
            }
        }
        for (String text : new String[] {
            "$ .ab12 ..* [ 'x\\u0041\\ud83d\\ude00' , -12 : 340 : 5 , 0]", "$..[?length( @.a ) >= 12 && !( @['b'] != \"\\u00e9\" )]",
            "$[?value(@..a)==true||count($.*)<null]", "$[9007199254740992]"}) {
            for (int n = 0; n <= text.length(); n++) {
                Bench b = cutOff(text, n);
                Bench.due("read " + n + " of " + text, b.told(Bench.outcome(() -> b.x.read())), Bench.query(text.substring(0, n)));
            }
        }
    }

    private static Bench cutOff(String text, int n) {
        Bench b = new Bench();
        b.tape(text);
        b.x.end(n);
        return b;
    }

    private static void documentsInRange() {
        Bench.sentence("d 0 .. 3 (so for all)");
        Bench b = new Bench();
        b.read("$");
        for (int d = 0; d < 4; d++) {
            Bench.due("load " + d, b.load(d, "[" + d + "]"), "1");
        }
        for (int d = 3; d >= 0; d--) {
            Bench.due("run " + d, b.run(d), "1");
            Bench.due("its own", b.result(), "$ [" + d + "]\n");
            Bench.due("work " + d, b.work(d), "1");
        }
        for (int d : OUTSIDE) {
            b.tape("1");
            Bench.due("load " + d, Bench.outcome(() -> b.x.load(d)), Bench.ARGUMENT);
            Bench.due("run " + d, b.run(d), Bench.ARGUMENT);
            Bench.due("work " + d, b.work(d), Bench.ARGUMENT);
        }
    }

    private static void documentsAreThereOrNot() {
        Bench.sentence("DOCUMENTS 0 .. 3 are there or not (at first).");
        for (int there = 0; there < 4; there++) {
            Bench b = new Bench();
            b.read("$");
            b.load(there, "1");
            for (int d = 0; d < 4; d++) {
                Bench.due("run " + d + " with " + there, b.run(d), d == there ? "1" : Bench.STATE);
                Bench.due("work " + d + " with " + there, b.work(d), d == there ? "1" : Bench.STATE);
            }
        }
        Bench b = new Bench();
        b.read("$");
        b.load(0, "null");
        Bench.due("null is there", b.run(0), "1");
        b.load(0, "2");
        b.run(0);
        Bench.due("the later one", b.result(), "$ 2\n");
    }

    private static void brokenLoad() {
        Bench.sentence("SYNTAX broken: UnsupportedOperationException, PLACE is told (DOCUMENT d is what it was).");
        Bench b = new Bench();
        b.read("$");
        Bench.due("broken", b.load(1, "[1,2"), Bench.SYNTAX);
        Bench.due("its place", b.place(), 4);
        Bench.due("it was not there", b.run(1), Bench.STATE);
        b.load(1, "[1,[2]]");
        for (String json : new String[] {"", " ", "[9", "[9]]", "9.5", "x", "{\"a\":1,\"a\":2}", Bench.repeat("[", 33), "[9,9007199254740992]", "[\"\\q"}) {
            Bench.due("broken " + json, b.load(1, json), Bench.SYNTAX);
            Bench.due("PLACE is told", b.place() >= 0, true);
            Bench.due("run", b.run(1), "1");
            Bench.due("what it was", b.result(), "$ [1,[2]]\n");
            Bench.due("the others were not there", b.run(0), Bench.STATE);
        }
    }

    private static void brokenRead() {
        Bench.sentence("SYNTAX broken: UnsupportedOperationException, PLACE is told (the QUERY of before stays).");
        Bench b = new Bench();
        b.load(0, "[1,[2]]");
        Bench.due("broken", b.read("$["), Bench.SYNTAX);
        Bench.due("its place", b.place(), 2);
        Bench.due("there was none", b.run(0), Bench.STATE);
        b.read("$[1][0]");
        for (String query : new String[] {"", "@", "$ ", "$[0", "$[0]]", "$[?@", "$..", "$['\\q']", "$[9007199254740992]", "$[?@.*==1]"}) {
            Bench.due("broken " + query, b.read(query), Bench.SYNTAX);
            Bench.due("PLACE is told", b.place() >= 0, true);
            Bench.due("run", b.run(0), "1");
            Bench.due("the QUERY of before", b.result(), "$[1][0] 2\n");
            Bench.due("its work", b.work(0), "3");
        }
        b.read("$[0]");
        b.run(0);
        Bench.due("the one that is run from now on", b.result(), "$[0] 1\n");
    }

    private static void emptyAfterReading() {
        Bench.sentence("A call that reads THE TAPE leaves it empty, also if it throws");
        Bench b = new Bench();
        for (String text : new String[] {"1", "x", "", "[1", "$"}) {
            b.load(0, text);
            Bench.due("after load " + text, b.x.count(0), 0);
            Bench.due("nothing to keep", Bench.outcome(() -> b.x.end(1)), Bench.ARGUMENT);
            b.read(text);
            Bench.due("after read " + text, b.x.count(0), 0);
            Bench.due("nothing to keep", Bench.outcome(() -> b.x.end(1)), Bench.ARGUMENT);
        }
        b.load(0, "[1,2,3]");
        Bench.due("what comes is not behind the old", b.load(0, "7"), "0");
        b.tape("12");
        b.run(0);
        b.work(0);
        b.x.word(0);
        b.x.count(2);
        Bench.due("others don't read it", b.x.count(0), 2);
        // The bytes of before must not be read again.
        Bench c = new Bench();
        c.load(0, "[1]");
        Bench.due("an empty TAPE again", Bench.outcome(() -> c.x.load(1)), Bench.SYNTAX);
        Bench.due("its place", c.place(), 0);
        Bench.due("an empty TAPE again", Bench.outcome(() -> c.x.read()), Bench.SYNTAX);
        Bench.due("its place", c.place(), 0);
    }

    private static void outOfRangeKeepsTheTape() {
        Bench.sentence("(but for a number out of range)");
        Bench b = new Bench();
        b.tape("[1,2]");
        for (int d : OUTSIDE) {
            Bench.due("load " + d, Bench.outcome(() -> b.x.load(d)), Bench.ARGUMENT);
            Bench.due("its length", b.x.count(0), 5);
        }
        Bench.due("it can still be read", Bench.outcome(() -> b.x.load(0)), "1");
        b.tape("[");
        Bench.due("a broken one, out of range", Bench.outcome(() -> b.x.load(4)), Bench.ARGUMENT);
        Bench.due("its length", b.x.count(0), 1);
        Bench.due("no place is told", b.place(), -1);
    }

    private static void wordInRange() {
        Bench.sentence("8 bytes of THE RESULT from i on, the highest first, zeros behind its end");
        for (String text : new String[] {"", "a", "ab", "abc", "abcd", "abcde", "abcdefghijklmnop"}) {
            Bench b = Bench.ready("\"" + text + "\"", "$");
            b.run(0);
            String bytes = "$ \"" + text + "\"\n";
            Bench.due("its length", b.x.count(1), bytes.length());
            for (int i = 0; i < bytes.length(); i++) {
                long want = 0;
                for (int k = i; k < i + 8; k++) {
                    want = want * 256 + (k < bytes.length() ? bytes.charAt(k) : 0);
                }
                Bench.due("word(" + i + ") of " + text, b.x.word(i), want);
            }
        }
        // Zeros, though a longer RESULT of before had other bytes there.
        Bench b = Bench.ready("\"" + Bench.repeat("x", 100) + "\"", "$");
        b.run(0);
        b.run(0);
        b.load(0, "1");
        for (int i = 0; i < 3; i++) {
            b.run(0);
            Bench.due("zeros behind its end", b.x.word(0), 0x2420310a00000000L);
            Bench.due("zeros behind its end", b.x.word(3), 0x0a00000000000000L);
        }
    }

    private static void wordOutOfRange() {
        Bench.sentence("i is none of its bytes: IndexOutOfBoundsException");
        Bench b = Bench.ready("1", "$");
        b.run(0);
        for (int i : new int[] {-1, -7, -8, 4, 5, 8, 16383, 16384, Integer.MIN_VALUE, Integer.MAX_VALUE, Integer.MAX_VALUE - 7}) {
            Bench.due("word(" + i + ")", Bench.outcome(() -> b.x.word(i)), Bench.INDEX);
        }
        Bench.due("word(3)", Bench.outcome(() -> b.x.word(3)), Long.toString(0x0a00000000000000L));
        b.read("$.a");
        b.run(0);
        Bench.due("word(0) of none", Bench.outcome(() -> b.x.word(0)), Bench.INDEX);
    }

    private static void countOfTapeAndResult() {
        Bench.sentence("0, 1 bytes of THE TAPE, of THE RESULT");
        Bench b = Bench.ready("[1,22]", "$[1]");
        Bench.due("before a run", b.x.count(1), 0);
        b.run(0);
        Bench.due("THE RESULT", b.x.count(1), 8);
        b.tape("abc");
        Bench.due("THE TAPE", b.x.count(0), 3);
        Bench.due("THE RESULT as before", b.x.count(1), 8);
        b.work(0);
        Bench.due("work leaves it", b.x.count(1), 8);
        b.x.end(0);
        b.read("$.a");
        Bench.due("read leaves it", b.x.count(1), 8);
        b.load(0, "1");
        Bench.due("load leaves it", b.x.count(1), 8);
        b.run(0);
        Bench.due("none", b.x.count(1), 0);
    }

    private static void countOfPlace() {
        Bench.sentence("2 PLACE of the latest load or read that was not out of range, -1 if it told none, or before");
        Bench b = new Bench();
        Bench.due("before", b.place(), -1);
        b.tape("[1,]");
        Bench.due("out of range", Bench.outcome(() -> b.x.load(4)), Bench.ARGUMENT);
        Bench.due("still before", b.place(), -1);
        Bench.due("broken load", Bench.outcome(() -> b.x.load(0)), Bench.SYNTAX);
        Bench.due("told", b.place(), 3);
        Bench.due("out of range", Bench.outcome(() -> b.x.load(-1)), Bench.ARGUMENT);
        Bench.due("of the latest that was not out of range", b.place(), 3);
        b.run(0);
        b.work(9);
        b.x.feed(0, 0, 0, 0, 0);
        b.x.end(0);
        Bench.due("others tell none", b.place(), 3);
        Bench.due("a good load", b.load(0, "1"), "0");
        Bench.due("it told none", b.place(), -1);
        Bench.due("broken read", b.read("$["), Bench.SYNTAX);
        Bench.due("told", b.place(), 2);
        Bench.due("a good load", b.load(0, "1"), "0");
        Bench.due("it told none", b.place(), -1);
        Bench.due("broken load", b.load(0, "x"), Bench.SYNTAX);
        Bench.due("told", b.place(), 0);
        Bench.due("a good read", b.read("$"), "1");
        Bench.due("it told none", b.place(), -1);
        b.tape("x");
        Bench.due("out of range behind a good one", Bench.outcome(() -> b.x.load(4)), Bench.ARGUMENT);
        Bench.due("still none", b.place(), -1);
    }

    private static void countOutOfRange() {
        Bench.sentence("what 0 .. 2");
        Bench b = new Bench();
        for (int what : new int[] {-1, 3, 4, Integer.MIN_VALUE, Integer.MAX_VALUE}) {
            Bench.due("count(" + what + ")", Bench.outcome(() -> b.x.count(what)), Bench.ARGUMENT);
        }
        for (int what = 0; what <= 2; what++) {
            int asked = what;
            Bench.due("count(" + what + ")", Bench.outcome(() -> b.x.count(asked)), what == 2 ? "-1" : "0");
        }
    }

    private static void noSuchDocument() {
        Bench.sentence("IllegalStateException: there is no such DOCUMENT");
        Bench b = new Bench();
        b.read("$");
        for (int d = 0; d < 4; d++) {
            Bench.due("run " + d, b.run(d), Bench.STATE);
            Bench.due("work " + d, b.work(d), Bench.STATE);
            b.load(d, "[");
            Bench.due("run " + d + " behind a broken load", b.run(d), Bench.STATE);
            b.load(d, "1");
            Bench.due("run " + d + " now", b.run(d), "1");
        }
    }

    private static void noQuery() {
        Bench.sentence("or no QUERY was read");
        Bench b = new Bench();
        b.load(0, "1");
        Bench.due("run", b.run(0), Bench.STATE);
        Bench.due("work", b.work(0), Bench.STATE);
        b.read("$$");
        Bench.due("run behind a broken read", b.run(0), Bench.STATE);
        Bench.due("work behind a broken read", b.work(0), Bench.STATE);
        b.read("$");
        Bench.due("run now", b.run(0), "1");
        Bench.due("work now", b.work(0), "1");
        b.read("$$");
        Bench.due("one was read", b.run(0), "1");
    }

    private static void argumentBeforeState() {
        Bench.sentence("What is thrown, in this order: IllegalArgumentException; IllegalStateException; then as the call says.");
        for (int d : OUTSIDE) {
            Bench b = new Bench();
            Bench.due("run, neither is there", b.run(d), Bench.ARGUMENT);
            Bench.due("work, neither is there", b.work(d), Bench.ARGUMENT);
            b.read("$");
            Bench.due("run, no DOCUMENT", b.run(d), Bench.ARGUMENT);
            Bench.due("work, no DOCUMENT", b.work(d), Bench.ARGUMENT);
            b.tape("[");
            Bench.due("load, broken", Bench.outcome(() -> b.x.load(d)), Bench.ARGUMENT);
        }
        // The QUERY would be too much WORK, but the DOCUMENT is not there.
        String row = "[" + Bench.repeat("0,", 199) + "0]";
        Bench b = Bench.ready(row, "$[?count($..*)==0]");
        Bench.due("too much", b.run(0), Bench.INDEX);
        Bench.due("no DOCUMENT", b.run(1), Bench.STATE);
        Bench.due("no DOCUMENT", b.work(1), Bench.STATE);
        Bench.due("out of range", b.run(4), Bench.ARGUMENT);
    }

    private static void throwingChangesNothing() {
        Bench.sentence("A call that throws changes nothing, but as said.");
        String row = "[" + Bench.repeat("0,", 199) + "0]";
        Bench b = new Bench();
        b.load(0, row);
        b.load(1, "[7,8]");
        b.load(2, "[");
        b.read("$[?count($..*)==2]");
        Bench.due("THE RESULT of before", b.run(1), "2");
        b.tape("[5]" + Bench.repeat(" ", 4080));
        String before = state(b);
        String[] thrown = {
            Bench.outcome(() -> b.x.feed(0, 0, 0, 0, 0)), Bench.outcome(() -> b.x.end(-1)), Bench.outcome(() -> b.x.end(4084)),
            Bench.outcome(() -> b.x.load(-1)), Bench.outcome(() -> b.x.load(4)), b.run(-1), b.run(4), b.run(2), b.run(3), b.run(0),
            b.work(-1), b.work(4), b.work(2), b.work(3), b.work(0), Bench.outcome(() -> b.x.word(-1)),
            Bench.outcome(() -> b.x.word(b.x.count(1))), Bench.outcome(() -> b.x.count(-1)), Bench.outcome(() -> b.x.count(3))};
        String[] want = {
            Bench.INDEX, Bench.ARGUMENT, Bench.ARGUMENT,
            Bench.ARGUMENT, Bench.ARGUMENT, Bench.ARGUMENT, Bench.ARGUMENT, Bench.STATE, Bench.STATE, Bench.INDEX,
            Bench.ARGUMENT, Bench.ARGUMENT, Bench.STATE, Bench.STATE, Bench.INDEX, Bench.INDEX,
            Bench.INDEX, Bench.ARGUMENT, Bench.ARGUMENT};
        for (int i = 0; i < thrown.length; i++) {
            Bench.due("call " + i, thrown[i], want[i]);
        }
        Bench.due("after all of them", state(b), before);
        Bench.due("the bytes of THE TAPE", Bench.outcome(() -> b.x.load(3)), "1");
        Bench.due("the QUERY and DOCUMENT 1", b.run(1), "2");
        Bench.due("what it was", b.result(), "$[0] 7\n$[1] 8\n");
        b.read("$");
        b.run(3);
        Bench.due("what THE TAPE was", b.result(), "$ [5]\n");
    }

    private static String state(Bench b) {
        return b.x.count(0) + " " + b.x.count(1) + " " + b.x.count(2) + " " + b.result() + b.work(1);
    }

    private static void fiveHundredAndTwelveCalls() {
        Bench.sentence("An object is used for at most 512 calls after it has been made");
        Bench b = new Bench();
        int query = 0x242e2e2a;
        for (int calls = 0; calls < 504; calls += 8) {
            b.x.feed(0x5b312c7b, 0x2261223a, 0x5b325d7d, 0x2c6e756c, 0x6c5d2020);
            Bench.due("load", b.x.load(calls / 8 % 4), 3);
            b.x.feed(query, 0, 0, 0, 0);
            b.x.end(4);
            Bench.due("read", b.x.read(), 0);
            Bench.due("run", b.x.run(calls / 8 % 4), 5);
            Bench.due("work", b.x.work(calls / 8 % 4), 12);
            Bench.due("word", b.x.word(0), 0x245b305d20310a24L);
        }
        for (int calls = 504; calls < 511; calls++) {
            b.x.count(0);
        }
        Bench.due("the 512th", b.x.run(0), 5);
    }
}
