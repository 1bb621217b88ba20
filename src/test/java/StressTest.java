/**
 * Long runs of made-up calls: nothing but what the face names is ever thrown, a call that throws
 * changes nothing but as said, and what was PRINTED can be loaded again and is PRINTED the same.
 */
public final class StressTest {
    private static final String[] JSON = {
        "[", "]", "{", "}", ",", ":", "\"a\"", "\"b\"", "\"\\u00e9\"", "\"\\ud83d\\ude00\"", "1", "-0", "20", "null",
        "true", "false", " ", "\"\\", "\"", "9007199254740991", "\u00ff", "{\"a\":", "{\"b\":[", "}]", "\"\\'\""};
    private static final String[] QUERY = {
        "$", "@", ".", "..", "[", "]", "*", "a", "b", "'a'", "\"b\"", "?", "(", ")", "!", "==", "<", ">=", "&&", "||",
        "length(", "count(", "value(", "0", "-1", "1", ":", ",", " ", "true", "null", "@.a", "$..*", "[?@.a==", "'\\u00e9'",
        "@..b", "!=", "=", "&", "\"\\", "\u0080"};
    private static final String[] GOOD_JSON = {
        "{\"a\":[1,2,{\"b\":null}],\"b\":{\"a\":\"x\",\"b\":[[],{}]}}",
        "[0,1,\"a\",[1,[2,[3]]],{\"a\":{\"a\":{\"a\":1}}},true]",
        "\"\\ud83d\\ude00\\uffff\\n\\\"\"", "[[1,2],[2,1],[1,2],{\"b\":1,\"a\":2},{\"a\":2,\"b\":1}]"};
    private static final String[] GOOD_QUERY = {
        "$", "$..*", "$.a[?@.b]", "$..[?@==1||length(@)>1]", "$[::-1,0]", "$..[?count(@.*)==2&&!@.a]", "$..[?@..[?@..*]]",
        "$..[?value(@..a)==$..b]", "$[?@[0]<=@[1]]..*", "$..*..*..*..*"};

    private static long seed = 20240517;

    public static void main(String[] args) {
        for (int i = 0; i < 1500; i++) {
            madeUpCalls();
        }
        for (int i = 0; i < 20000; i++) {
            printedAndLoadedAgain();
            unbrokenBefore(text(GOOD_JSON, JSON), true);
            unbrokenBefore(text(GOOD_QUERY, QUERY), false);
        }
        Bench.finish();
    }

    private static int below(int bound) {
        seed = seed * 6364136223846793005L + 1442695040888963407L;
        return (int) ((seed >>> 33) % bound);
    }

    private static String words(String[] from, int most) {
        StringBuilder text = new StringBuilder();
        for (int n = below(most + 1); n > 0; n--) {
            text.append(from[below(from.length)]);
        }
        return text.toString();
    }

    /** A good text, a good one with one byte changed, or words in any order. */
    private static String text(String[] good, String[] words) {
        int way = below(3);
        if (way == 0) {
            return words(words, 12);
        }
        String text = good[below(good.length)];
        if (way == 1) {
            int at = below(text.length());
            text = text.substring(0, at) + words[below(words.length)] + text.substring(at + below(2));
        }
        return text;
    }

    private static void madeUpCalls() {
        Bench b = new Bench();
        for (int calls = 0; calls < 60; calls++) {
            int d = below(6) - 1;
            switch (below(6)) {
                case 0:
                    oneOf(b, "load", d, text(GOOD_JSON, JSON));
                    break;
                case 1:
                    oneOf(b, "read", d, text(GOOD_QUERY, QUERY));
                    break;
                case 2:
                case 3:
                    oneOf(b, "run", d, "");
                    break;
                case 4:
                    oneOf(b, "work", d, "");
                    break;
                default:
                    b.tape(words(JSON, 2));
                    b.x.end(below(b.x.count(0) + 1));
                    break;
            }
        }
    }

    private static void oneOf(Bench b, String call, int d, String text) {
        String before = b.result();
        int place = b.place();
        boolean reads = call.equals("load") || call.equals("read");
        b.x.end(reads ? 0 : b.x.count(0));
        b.tape(text);
        int length = b.x.count(0);
        String told = call + " " + d + " " + text;
        String got = reads ? readingCall(b, call, d) : call.equals("run") ? b.run(d) : b.work(d);
        boolean thrown = got.endsWith("Exception");
        boolean range = (d < 0 || d > 3) && !call.equals("read");
        Bench.due("a number out of range, " + told, got.equals("IllegalArgumentException"), range);
        if (thrown && !range) {
            boolean named = reads ? got.equals("UnsupportedOperationException")
                    : got.equals("IllegalStateException") || got.equals("IndexOutOfBoundsException");
            Bench.due("what is thrown, " + told + ": " + got, named, true);
        }
        if (reads && !range) {
            Bench.due("tape after " + told, b.x.count(0), 0);
            Bench.due("place after " + told, thrown ? b.place() >= 0 && b.place() <= length : b.place() == -1, true);
        } else {
            Bench.due("tape after " + told, b.x.count(0), length);
            Bench.due("place after " + told, b.place(), place);
        }
        if (thrown || !call.equals("run")) {
            Bench.due("result after " + told, b.result(), before);
        } else {
            Bench.due("lines after " + told, b.result().chars().filter(c -> c == '\n').count(), Long.parseLong(got));
        }
    }

    private static String readingCall(Bench b, String call, int d) {
        return call.equals("load") ? Bench.outcome(() -> b.x.load(d)) : Bench.outcome(() -> b.x.read());
    }

    /** What stands before PLACE is either whole or broken at its end, not earlier. */
    private static void unbrokenBefore(String text, boolean json) {
        Bench b = new Bench();
        String got = json ? b.load(0, text) : b.read(text);
        if (got.endsWith("Exception")) {
            int place = b.place();
            String front = text.substring(0, place);
            got = json ? b.load(0, front) : b.read(front);
            Bench.due("before the place in " + text, b.place(), got.endsWith("Exception") ? place : -1);
        }
    }

    private static void printedAndLoadedAgain() {
        Bench b = new Bench();
        String json = text(GOOD_JSON, JSON);
        if (b.load(0, json).endsWith("Exception")) {
            return;
        }
        b.read("$");
        b.run(0);
        String printed = b.result();
        b.load(1, printed.substring(2, printed.length() - 1));
        b.run(1);
        Bench.due("again " + json, b.result(), printed);
        b.load(2, "[" + json + "," + printed.substring(2) + "]");
        b.read("$[?@==$[0]]");
        Bench.due("the same twice " + json, b.run(2), "2");
    }
}
