/** Promise 4: JSON, where its SYNTAX is broken, how deep it is; and how it is PRINTED. */
public final class LoadTest {
    private static final String SYNTAX = Bench.SYNTAX;

    public static void main(String[] args) {
        literals();
        numbers();
        strings();
        surrogates();
        containers();
        names();
        depth();
        manyValues();
        Bench.finish();
    }

    /** The DOCUMENT is as deep as said and is PRINTED as said. */
    private static void good(String json, int deep, String printed) {
        Bench b = new Bench();
        Bench.due("load " + json, b.load(2, json), Integer.toString(deep));
        Bench.due("place of " + json, b.place(), -1);
        b.read("$");
        b.run(2);
        Bench.due("print " + json, b.result(), "$ " + printed + "\n");
    }

    private static void broken(String json, int place) {
        Bench b = new Bench();
        Bench.due("load " + json, b.load(0, json), SYNTAX);
        Bench.due("place of " + json, b.place(), place);
    }

    private static void literals() {
        good("null", 0, "null");
        good("true", 0, "true");
        good("false", 0, "false");
        good(" \t\r\nnull\t \n\r", 0, "null");
        broken("", 0);
        broken("  ", 2);
        broken("nul", 3);
        broken("nulL", 3);
        broken("nullx", 4);
        broken("null null", 5);
        broken("truE", 3);
        broken("fals", 4);
        broken("False", 0);
        broken("\u000bnull", 0);
        broken("null\u0000", 4);
        broken("\u00a0", 0);
        broken("'a'", 0);
    }

    private static void numbers() {
        good("0", 0, "0");
        good("-0", 0, "0");
        good("7", 0, "7");
        good("-7", 0, "-7");
        good("10", 0, "10");
        good("-1200340", 0, "-1200340");
        good("9007199254740991", 0, "9007199254740991");
        good("-9007199254740991", 0, "-9007199254740991");
        broken("9007199254740992", 0);
        broken("-9007199254740992", 0);
        broken("[1,9007199254740992]", 3);
        broken("[1, -9007199254740992 x", 4);
        broken("99999999999999999999999999999999999999", 0);
        broken("18446744073709551617", 0);
        broken("01", 1);
        broken("-01", 2);
        broken("00", 1);
        broken("-", 1);
        broken("-x", 1);
        broken("- 1", 1);
        broken("--1", 1);
        broken("+1", 0);
        broken("1.5", 0);
        broken("[12,-34.5]", 4);
        broken("0.0", 0);
        broken(" 1e5", 1);
        broken(" -12E5", 1);
        broken("1e", 0);
        broken("1 .5", 2);
        broken("1 e5", 2);
        broken(".5", 0);
        broken("-.5", 1);
        broken("-e", 1);
        broken("9007199254740992.5", 0);
        broken("1x", 1);
        broken("1 2", 2);
    }

    private static void strings() {
        good("\"\"", 0, "\"\"");
        good("\"a b'c/~ \"", 0, "\"a b'c/~ \"");
        good("\"\\\"\\\\\\/\\b\\f\\n\\r\\t\"", 0, "\"\\\"\\\\/\\b\\f\\n\\r\\t\"");
        good("\"\\u0008\\u0009\\u000a\\u000C\\u000d\"", 0, "\"\\b\\t\\n\\f\\r\"");
        good("\"\\u0000\\u0001\\u000b\\u001F\\u0020\\u007e\\u007f\"", 0, "\"\\u0000\\u0001\\u000b\\u001f ~\\u007f\"");
        good("\"\\u0022\\u005C\\u002f\\u0027\"", 0, "\"\\\"\\\\/'\"");
        good("\"\\u00e9\\uABCD\\uabcd\\uFFFF\\uffff\"", 0, "\"\\u00e9\\uabcd\\uabcd\\uffff\\uffff\"");
        good("\"\\u0041\\u005a\\u0061\"", 0, "\"AZa\"");
        broken("\"", 1);
        broken("\"abc", 4);
        broken("\"abc\"d", 5);
        broken("\"a\nb\"", 2);
        broken("\"a\u001f", 2);
        broken("\"a\u007f\"", 2);
        broken("\"a\u0080\"", 2);
        broken("\"a\u00ff\"", 2);
        broken("\"ab\\x\"", 3);
        broken("\"ab\\'\"", 3);
        broken("\"ab\\U0041\"", 3);
        broken("\"ab\\u004\"", 3);
        broken("\"ab\\u00g0\"", 3);
        broken("\"ab\\u 041\"", 3);
        broken("\"ab\\u-041\"", 3);
        broken("\"ab\\u00:0\"", 3);
        broken("\"ab\\u00@0\"", 3);
        broken("\"ab\\u00`0\"", 3);
        broken("\"ab\\u00/0\"", 3);
        broken("\"ab\\u00G0\"", 3);
        // A CHARACTER that the end cuts off is none.
        broken("\"ab\\", 3);
        broken("\"ab\\u", 3);
        broken("\"ab\\u004", 3);
        broken("\"ab\\u0041", 9);
    }

    private static void surrogates() {
        good("\"\\ud800\\udc00\\uDBFF\\uDFFF\"", 0, "\"\\ud800\\udc00\\udbff\\udfff\"");
        good("\"\\ud7ff\\ue000\"", 0, "\"\\ud7ff\\ue000\"");
        broken("\"a\\ud800\"", 2);
        broken("\"a\\udbffb\"", 2);
        broken("\"a\\udc00\"", 2);
        broken("\"a\\udfff\\ud800\"", 2);
        broken("\"a\\ud800\\ud800\\udc00\"", 2);
        broken("\"a\\ud800\\n\"", 2);
        broken("\"a\\ud800\\u0041\"", 2);
        broken("\"a\\ud800\\udbff\"", 2);
        broken("\"a\\ud800\\ue000\"", 2);
        broken("\"a\\ud800\\udc0\"", 2);
        broken("\"a\\ud800\\udc00\\udc00\"", 14);
        broken("\"a\\ud800", 2);
        broken("\"a\\ud800\\", 2);
        broken("\"a\\ud800\\udc00", 14);
    }

    private static void containers() {
        good("[]", 1, "[]");
        good("{}", 1, "{}");
        good(" [ ] ", 1, "[]");
        good("\t{\r\n} ", 1, "{}");
        good("[1]", 1, "[1]");
        good(" [ 1 , \"a\" ,null , [ ] , { } ] ", 2, "[1,\"a\",null,[],{}]");
        good(" { \"b\" : 1 , \"a\" : [ true , false ] } ", 2, "{\"b\":1,\"a\":[true,false]}");
        good("{\"\":{\"\":{\"\":[]}}}", 4, "{\"\":{\"\":{\"\":[]}}}");
        good("[[],[[]],[[[]]],[]]", 4, "[[],[[]],[[[]]],[]]");
        broken("[", 1);
        broken("[ ", 2);
        broken("[1", 2);
        broken("[1,", 3);
        broken("[1,]", 3);
        broken("[,1]", 1);
        broken("[1 2]", 3);
        broken("[1}", 2);
        broken("[1]]", 3);
        broken("[1:2]", 2);
        broken("]", 0);
        broken("{", 1);
        broken("{1:2}", 1);
        broken("{a:1}", 1);
        broken("{\"a\"", 4);
        broken("{\"a\" 1}", 5);
        broken("{\"a\",1}", 4);
        broken("{\"a\":", 5);
        broken("{\"a\":}", 5);
        broken("{\"a\":1", 6);
        broken("{\"a\":1,", 7);
        broken("{\"a\":1,}", 7);
        broken("{\"a\":1]", 6);
        broken("{\"a\":1 \"b\":2}", 7);
        broken("{,}", 1);
        broken("{\"a\\q\":1}", 3);
        broken("{]", 1);
    }

    private static void names() {
        good("{\"a\":{\"a\":1},\"b\":[{\"a\":2}]}", 3, "{\"a\":{\"a\":1},\"b\":[{\"a\":2}]}");
        good("{\"a\":1,\"A\":2,\"aa\":3,\"\":4}", 1, "{\"a\":1,\"A\":2,\"aa\":3,\"\":4}");
        good("{\"z'\\\"\\\\\\u0001\":1}", 1, "{\"z'\\\"\\\\\\u0001\":1}");
        broken("{\"a\":1,\"a\":2}", 7);
        broken("{\"a\":1, \"b\":2 , \"\\u0061\" :3}", 16);
        broken("{\"a\":1,\"a\"", 7);
        broken("{\"a\":1,\"a", 9);
        broken("{\"\":1,\"b\":2,\"\":3}", 12);
        broken("[{\"x\":{\"a\":1,\"c\":2,\"a\":2}}]", 19);
        broken("{\"\\ud83d\\ude00\":1,\"\\uD83D\\uDE00\":2}", 18);
    }

    private static void depth() {
        good(Bench.repeat("[", 32) + Bench.repeat("]", 32), 32, Bench.repeat("[", 32) + Bench.repeat("]", 32));
        broken(Bench.repeat("[", 33) + Bench.repeat("]", 33), 32);
        String names = Bench.repeat("{\"a\":", 31) + "{}" + Bench.repeat("}", 31);
        good(names, 32, names);
        broken(Bench.repeat("{\"a\":", 32) + "{}" + Bench.repeat("}", 32), 160);
        broken(Bench.repeat("[", 32) + "1,{", 34);
        broken(Bench.repeat("[", 4000), 32);
        String wide = "[" + Bench.repeat("[],", 60) + "{}]";
        good(wide, 2, wide);
    }

    private static void manyValues() {
        String row = "[" + Bench.repeat("0,", 2030) + "1]";
        Bench b = new Bench();
        Bench.due("many values", b.load(0, row), "1");
        b.read("$[-1]");
        Bench.due("run", b.run(0), "1");
        Bench.due("the last one", b.result(), "$[2030] 1\n");
        String text = "\"" + Bench.repeat("x", 4050) + "\"";
        good(text, 0, text);
    }
}
