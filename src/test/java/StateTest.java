/** Promises 1, 2, 3, 8, 9, and what throwing calls leave as it was. */
public final class StateTest {
    private static final String ARGUMENT = Bench.ARGUMENT;
    private static final String STATE = Bench.STATE;
    private static final String INDEX = Bench.INDEX;
    private static final String SYNTAX = Bench.SYNTAX;

    public static void main(String[] args) {
        newObject();
        feed();
        end();
        word();
        count();
        tapeAfterReading();
        orderOfExceptions();
        whatStays();
        Bench.finish();
    }

    private static void newObject() {
        Bench b = new Bench();
        Bench.due("new: count(0)", b.x.count(0), 0);
        Bench.due("new: count(1)", b.x.count(1), 0);
        Bench.due("new: count(2)", b.x.count(2), -1);
        Bench.due("new: word(0)", Bench.outcome(() -> b.x.word(0)), INDEX);
        for (int d = 0; d < 4; d++) {
            Bench.due("new: run", b.run(d), STATE);
            Bench.due("new: work", b.work(d), STATE);
        }
        Bench.due("new: end(0)", Bench.outcome(() -> b.x.end(0)), "0");
        Bench.due("new: end(1)", Bench.outcome(() -> b.x.end(1)), ARGUMENT);
    }

    private static void feed() {
        Bench b = new Bench();
        // "ABCD" and so on: the highest byte of each int comes first.
        Bench.due("feed", b.x.feed(0x22414243, 0x44454647, 0x48494a4b, 0x4c4d4e4f, 0x50515222), 20);
        Bench.due("load", Bench.outcome(() -> b.x.load(0)), "0");
        b.read("$");
        b.run(0);
        Bench.due("order of the bytes", b.result(), "$ \"ABCDEFGHIJKLMNOPQR\"\n");

        Bench full = new Bench();
        for (int i = 1; i <= 204; i++) {
            Bench.due("feed " + i, full.x.feed(0x20202020, 0x20202020, 0x20202020, 0x20202020, 0x20202020), 20 * i);
        }
        Bench.due("4100 bytes", Bench.outcome(() -> full.x.feed(0, 0, 0, 0, 0)), INDEX);
        Bench.due("tape stays", full.x.count(0), 4080);
        full.x.end(4077);
        Bench.due("4097 bytes", Bench.outcome(() -> full.x.feed(0, 0, 0, 0, 0)), INDEX);
        full.x.end(4076);
        Bench.due("4096 bytes", Bench.outcome(() -> full.x.feed(0x20202020, 0x20202020, 0x20202020, 0x20202020, 0x20202037)), "4096");
        Bench.due("one more", Bench.outcome(() -> full.x.feed(0, 0, 0, 0, 0)), INDEX);
        Bench.due("4096 bytes are read", Bench.outcome(() -> full.x.load(3)), "0");
        full.read("$");
        full.run(3);
        Bench.due("4096 bytes, the last one 7", full.result(), "$ 7\n");
    }

    private static void end() {
        Bench b = new Bench();
        b.x.feed(0x31323334, 0x35363738, 0x39303132, 0x33343536, 0x37383930);
        Bench.due("end(21)", Bench.outcome(() -> b.x.end(21)), ARGUMENT);
        Bench.due("end(-1)", Bench.outcome(() -> b.x.end(-1)), ARGUMENT);
        Bench.due("end(min)", Bench.outcome(() -> b.x.end(Integer.MIN_VALUE)), ARGUMENT);
        Bench.due("end(max)", Bench.outcome(() -> b.x.end(Integer.MAX_VALUE)), ARGUMENT);
        Bench.due("stays", b.x.count(0), 20);
        Bench.due("end(20)", Bench.outcome(() -> b.x.end(20)), "20");
        Bench.due("end(3)", Bench.outcome(() -> b.x.end(3)), "3");
        Bench.due("end(4)", Bench.outcome(() -> b.x.end(4)), ARGUMENT);
        Bench.due("fed behind the cut", b.x.feed(0x20202020, 0x20202020, 0x20202020, 0x20202020, 0x20202020), 23);
        Bench.due("load", Bench.outcome(() -> b.x.load(0)), "0");
        b.read("$");
        b.run(0);
        Bench.due("the first three", b.result(), "$ 123\n");
    }

    private static void word() {
        Bench b = new Bench();
        b.load(0, "\"0123456789\"");
        b.read("$");
        b.run(0);
        Bench.due("length", b.x.count(1), 15);
        Bench.due("word(0)", b.x.word(0), 0x2420223031323334L);
        Bench.due("word(1)", b.x.word(1), 0x2022303132333435L);
        Bench.due("word(7)", b.x.word(7), 0x343536373839220aL);
        Bench.due("word(8)", b.x.word(8), 0x3536373839220a00L);
        Bench.due("word(14)", b.x.word(14), 0x0a00000000000000L);
        Bench.due("word(15)", Bench.outcome(() -> b.x.word(15)), INDEX);
        Bench.due("word(-1)", Bench.outcome(() -> b.x.word(-1)), INDEX);
        Bench.due("word(min)", Bench.outcome(() -> b.x.word(Integer.MIN_VALUE)), INDEX);
        Bench.due("word(max)", Bench.outcome(() -> b.x.word(Integer.MAX_VALUE)), INDEX);
        // A longer RESULT of before must not show behind the end of a shorter one.
        b.load(0, "7");
        b.run(0);
        b.run(0);
        b.run(0);
        Bench.due("zeros behind the end", b.x.word(0), 0x2420370a00000000L);
    }

    private static void count() {
        Bench b = new Bench();
        Bench.due("count(-1)", Bench.outcome(() -> b.x.count(-1)), ARGUMENT);
        Bench.due("count(3)", Bench.outcome(() -> b.x.count(3)), ARGUMENT);
        b.load(1, "[1,]");
        Bench.due("place of load", b.place(), 3);
        b.tape("[1]");
        Bench.due("out of range", Bench.outcome(() -> b.x.load(4)), ARGUMENT);
        Bench.due("place stays", b.place(), 3);
        Bench.due("tape stays", b.x.count(0), 3);
        Bench.due("load", Bench.outcome(() -> b.x.load(1)), "1");
        Bench.due("told none", b.place(), -1);
        b.read("$.a..");
        Bench.due("place of read", b.place(), 5);
        b.run(1);
        Bench.due("run tells none", b.place(), 5);
        b.read("$.a");
        Bench.due("told none", b.place(), -1);
    }

    private static void tapeAfterReading() {
        Bench b = new Bench();
        b.load(0, "1");
        Bench.due("load empties", b.x.count(0), 0);
        b.load(0, "x");
        Bench.due("a broken load empties", b.x.count(0), 0);
        b.read("$");
        Bench.due("read empties", b.x.count(0), 0);
        b.read("x");
        Bench.due("a broken read empties", b.x.count(0), 0);
        b.tape("12");
        b.run(0);
        b.work(0);
        b.x.word(0);
        Bench.due("others leave it", b.x.count(0), 2);
        Bench.due("load(-1)", Bench.outcome(() -> b.x.load(-1)), ARGUMENT);
        Bench.due("load(4)", Bench.outcome(() -> b.x.load(4)), ARGUMENT);
        Bench.due("out of range leaves it", b.x.count(0), 2);
        b.x.end(0);
        Bench.due("empty load", Bench.outcome(() -> b.x.load(0)), SYNTAX);
        Bench.due("its place", b.place(), 0);
        Bench.due("empty read", Bench.outcome(() -> b.x.read()), SYNTAX);
        Bench.due("its place", b.place(), 0);
    }

    private static void orderOfExceptions() {
        Bench b = new Bench();
        for (int d : new int[] {-1, 4, Integer.MIN_VALUE, Integer.MAX_VALUE}) {
            Bench.due("run(" + d + ")", b.run(d), ARGUMENT);
            Bench.due("work(" + d + ")", b.work(d), ARGUMENT);
            Bench.due("load(" + d + ")", Bench.outcome(() -> b.x.load(d)), ARGUMENT);
        }
        b.read("$");
        Bench.due("no DOCUMENT", b.run(2), STATE);
        Bench.due("no DOCUMENT", b.work(2), STATE);
        b.load(2, "1");
        Bench.due("now it is there", b.run(2), "1");
        Bench.due("now it is there", b.work(2), "1");
        Bench.due("others are not", b.run(1), STATE);
        Bench c = new Bench();
        c.load(0, "1");
        Bench.due("no QUERY", c.run(0), STATE);
        Bench.due("no QUERY", c.work(0), STATE);
        c.read("$$");
        Bench.due("a broken one is none", c.run(0), STATE);
    }

    private static void whatStays() {
        Bench b = new Bench();
        for (int d = 0; d < 4; d++) {
            b.load(d, "[" + d + "]");
        }
        b.read("$[0]");
        for (int d = 0; d < 4; d++) {
            Bench.due("broken load", b.load(d, "[9"), SYNTAX);
            Bench.due("run", b.run(d), "1");
            Bench.due("DOCUMENT " + d + " is what it was", b.result(), "$[0] " + d + "\n");
        }
        Bench.due("broken read", b.read("$[1"), SYNTAX);
        Bench.due("run", b.run(1), "1");
        Bench.due("the QUERY of before", b.result(), "$[0] 1\n");
        b.run(9);
        Bench.due("a throwing run leaves THE RESULT", b.result(), "$[0] 1\n");
        b.work(2);
        Bench.due("work leaves THE RESULT", b.result(), "$[0] 1\n");
        b.load(1, "[true]");
        Bench.due("load leaves THE RESULT", b.result(), "$[0] 1\n");
        b.run(1);
        Bench.due("a new DOCUMENT", b.result(), "$[0] true\n");
        b.read("$[9]");
        Bench.due("no NODE", b.run(1), "0");
        Bench.due("THE RESULT of no NODE", b.x.count(1), 0);
        Bench.due("none of its bytes", Bench.outcome(() -> b.x.word(0)), INDEX);
    }
}
