import java.nio.charset.StandardCharsets;

/** A QueryBench that is fed with texts, and the count of what was not as due. */
final class Bench {
    private static int asked = 0;
    private static int wrong = 0;

    final QueryBench x = new QueryBench();

    /** A call whose answer or exception is looked at. */
    interface Call {
        long answer();
    }

    static void due(String what, Object got, Object want) {
        asked++;
        if (!want.equals(got)) {
            wrong++;
            System.out.println(what + "\n  answered " + got + "\n  due is   " + want);
        }
    }

    static void finish() {
        System.out.println(asked + " answers looked at, " + wrong + " not as due");
        if (wrong != 0) {
            System.exit(1);
        }
    }

    /** The answer of a call as a text, or the name of what it throws. */
    static String outcome(Call call) {
        try {
            return Long.toString(call.answer());
        } catch (RuntimeException e) {
            return e.getClass().getSimpleName();
        }
    }

    /** Each char of the text is one byte. */
    void tape(String text) {
        byte[] bytes = text.getBytes(StandardCharsets.ISO_8859_1);
        int kept = x.count(0);
        for (int i = 0; i < bytes.length; i += 20) {
            if (kept + i + 20 > 4096) {
                throw new AssertionError("the last 20 bytes of a text must fit: " + bytes.length);
            }
            x.feed(four(bytes, i), four(bytes, i + 4), four(bytes, i + 8), four(bytes, i + 12), four(bytes, i + 16));
        }
        x.end(kept + bytes.length);
    }

    private static int four(byte[] bytes, int from) {
        int four = 0;
        for (int i = from; i < from + 4; i++) {
            four = four << 8 | (i < bytes.length ? bytes[i] & 255 : 0);
        }
        return four;
    }

    String load(int d, String json) {
        tape(json);
        return outcome(() -> x.load(d));
    }

    String read(String query) {
        tape(query);
        return outcome(() -> x.read());
    }

    String run(int d) {
        return outcome(() -> x.run(d));
    }

    String work(int d) {
        return outcome(() -> x.work(d));
    }

    int place() {
        return x.count(2);
    }

    /** THE RESULT, put together from words. */
    String result() {
        int length = x.count(1);
        StringBuilder text = new StringBuilder();
        for (int i = 0; i < length; i += 8) {
            long word = x.word(i);
            for (int shift = 56; shift >= 0; shift -= 8) {
                text.append((char) (word >> shift & 255));
            }
        }
        for (int i = length; i < text.length(); i++) {
            if (text.charAt(i) != 0) {
                throw new AssertionError("no zeros behind the end");
            }
        }
        text.setLength(length);
        return text.toString();
    }

    static String repeat(String text, int times) {
        return text.repeat(times);
    }
}
