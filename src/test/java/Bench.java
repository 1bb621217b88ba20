import java.nio.charset.StandardCharsets;

/** A QueryBench that is fed with texts, and the count of what was not as due. */
final class Bench {
    static final String ARGUMENT = "IllegalArgumentException";
    static final String STATE = "IllegalStateException";
    static final String INDEX = "IndexOutOfBoundsException";
    static final String SYNTAX = "UnsupportedOperationException";

    private static int asked = 0;
    private static int wrong = 0;
    private static String sentence = "";

    final QueryBench x = new QueryBench();

    /** A call whose answer or exception is looked at. */
    interface Call {
        long answer();
    }

    /** The document's words that the answers from here on are due to. */
    static void sentence(String words) {
        sentence = words;
    }

    static void due(String what, Object got, Object want) {
        asked++;
        if (!want.equals(got)) {
            wrong++;
            if (!sentence.isEmpty()) {
                System.out.println("the document: " + sentence);
            }
            System.out.println(what + "\n  answered " + got + "\n  due is   " + want);
        }
    }

    static void finish() {
        System.out.println(asked + " answers looked at, " + wrong + " not as due");
        if (wrong != 0) {
            System.exit(1);
        }
    }

    /** The answer of a call as a text, or the name of what it throws. */
    static String outcome(Call call) {
        try {
            return Long.toString(call.answer());
        } catch (RuntimeException e) {
            return e.getClass().getSimpleName();
        }
    }

    /** Each char of the text is one byte. */
    void tape(String text) {
        byte[] bytes = text.getBytes(StandardCharsets.ISO_8859_1);
        int kept = x.count(0);
        for (int i = 0; i < bytes.length; i += 20) {
            // The last 20 may not fit behind those before; then some of those are fed a second time.
            int from = Math.min(i, 4096 - 20 - kept);
            if (from < i) {
                x.end(kept + from);
            }
            x.feed(four(bytes, from), four(bytes, from + 4), four(bytes, from + 8), four(bytes, from + 12), four(bytes, from + 16));
        }
        x.end(kept + bytes.length);
    }

    private static int four(byte[] bytes, int from) {
        int four = 0;
        for (int i = from; i < from + 4; i++) {
            four = four << 8 | (i < bytes.length ? bytes[i] & 255 : 0);
        }
        return four;
    }

    String load(int d, String json) {
        tape(json);
        return outcome(() -> x.load(d));
    }

    String read(String query) {
        tape(query);
        return outcome(() -> x.read());
    }

    String run(int d) {
        return outcome(() -> x.run(d));
    }

    String work(int d) {
        return outcome(() -> x.work(d));
    }

    int place() {
        return x.count(2);
    }

    /** What a new object says of the text as a DOCUMENT: how deep it is, or "at" and the PLACE. */
    static String json(String text) {
        Bench b = new Bench();
        return b.told(b.load(0, text));
    }

    /** What a new object says of the text as a QUERY: 1, 0, or "at" and the PLACE. */
    static String query(String text) {
        Bench b = new Bench();
        return b.told(b.read(text));
    }

    /** The answer of load or read, or "at" and the PLACE. */
    String told(String answer) {
        if (answer.equals(SYNTAX)) {
            return "at " + place();
        }
        return place() == -1 ? answer : answer + ", but place " + place();
    }

    /** An object with DOCUMENT 0 and a QUERY. */
    static Bench ready(String json, String query) {
        Bench b = new Bench();
        String loaded = b.load(0, json);
        String read = b.read(query);
        if (loaded.equals(SYNTAX) || read.equals(SYNTAX)) {
            throw new AssertionError(query + " over " + json + " is broken at " + b.place());
        }
        return b;
    }

    /** How the DOCUMENT is PRINTED. */
    static String printed(String json) {
        String line = found(json, "$");
        return line.substring(2, line.length() - 1);
    }

    /** THE RESULT of the QUERY over the DOCUMENT, or what is thrown. */
    static String found(String json, String query) {
        Bench b = ready(json, query);
        String answer = b.run(0);
        return answer.endsWith("Exception") ? answer : b.result();
    }

    /** Whether the filter is true of the one VALUE in [ ]. */
    static boolean holds(String json, String filter) {
        return found("[" + json + "]", "$[?" + filter + "]").length() > 0;
    }

    static String work(String json, String query) {
        return ready(json, query).work(0);
    }

    /** THE RESULT, put together from words. */
    String result() {
        int length = x.count(1);
        StringBuilder text = new StringBuilder();
        for (int i = 0; i < length; i += 8) {
            long word = x.word(i);
            for (int shift = 56; shift >= 0; shift -= 8) {
                text.append((char) (word >> shift & 255));
            }
        }
        for (int i = length; i < text.length(); i++) {
            if (text.charAt(i) != 0) {
                throw new AssertionError("no zeros behind the end");
            }
        }
        text.setLength(length);
        return text.toString();
    }

    static String repeat(String text, int times) {
        return text.repeat(times);
    }
}
