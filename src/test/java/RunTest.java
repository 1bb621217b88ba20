/** Promises 6, 7 and 10: NODES, their paths, comparisons and functions, WORK, and the limits. */
public final class RunTest {
    private static final String INDEX = Bench.INDEX;
    private static final String LETTERS = "[\"a\",\"b\",\"c\",\"d\",\"e\",\"f\",\"g\"]";

    public static void main(String[] args) {
        namesAndIndexes();
        wildcards();
        slices();
        descent();
        order();
        paths();
        filters();
        comparisons();
        sameValues();
        stringOrder();
        functions();
        shortCircuit();
        workLimit();
        resultLimit();
        bigDepth();
        Bench.finish();
    }

    /** Lines are PATH blank VALUE, without the byte 10. */
    private static void nodes(String json, String query, int work, String... lines) {
        Bench b = new Bench();
        String told = query + " over " + json;
        b.load(1, json);
        b.read(query);
        Bench.due("place, " + told, b.place(), -1);
        Bench.due("run, " + told, b.run(1), Integer.toString(lines.length));
        Bench.due("result, " + told, b.result(), lines.length == 0 ? "" : String.join("\n", lines) + "\n");
        Bench.due("work, " + told, b.work(1), Integer.toString(work));
    }

    /** Whether the filter holds for the one VALUE in [ ]. */
    private static void asked(String json, String filter, boolean holds) {
        Bench b = new Bench();
        b.load(0, "[" + json + "]");
        b.read("$[?" + filter + "]");
        Bench.due("place, " + filter, b.place(), -1);
        Bench.due(filter + " of " + json, b.run(0), holds ? "1" : "0");
    }

    private static void namesAndIndexes() {
        nodes("7", "$", 1, "$ 7");
        nodes("{\"a\":{\"b\":[1,{\"c\":2}]}}", "$.a.b[1].c", 5, "$['a']['b'][1]['c'] 2");
        nodes("{\"a\":1}", "$.b", 1);
        nodes("{\"a\":1}", "$.a.a", 2);
        nodes("[1,2,3]", "$.a", 1);
        nodes("\"abc\"", "$[0]", 1);
        nodes("\"abc\"", "$.length", 1);
        nodes("{\"0\":1}", "$[0]", 1);
        nodes("[1,2,3]", "$['0']", 1);
        nodes("[1,2,3]", "$[0]", 2, "$[0] 1");
        nodes("[1,2,3]", "$[2]", 2, "$[2] 3");
        nodes("[1,2,3]", "$[3]", 1);
        nodes("[1,2,3]", "$[-1]", 2, "$[2] 3");
        nodes("[1,2,3]", "$[-3]", 2, "$[0] 1");
        nodes("[1,2,3]", "$[-4]", 1);
        nodes("[]", "$[0]", 1);
        nodes("[]", "$[-1]", 1);
        nodes("[1,2,3]", "$[9007199254740991]", 1);
        nodes("[1,2,3]", "$[-9007199254740991]", 1);
        nodes("[1,2,3]", "$[4294967296]", 1);
        nodes("[1,2,3]", "$[0,0,-3]", 4, "$[0] 1", "$[0] 1", "$[0] 1");
        nodes("{\"b\":1,\"a\":2}", "$['a',\"b\",'a']", 4, "$['a'] 2", "$['b'] 1", "$['a'] 2");
        nodes("{\"A\":1}", "$['\\u0041']", 2, "$['A'] 1");
        nodes("{\"\":{\"\":1}}", "$['']['']", 3, "$[''][''] 1");
    }

    private static void wildcards() {
        nodes("{\"b\":1,\"a\":[2]}", "$.*", 3, "$['b'] 1", "$['a'] [2]");
        nodes("[1,[2],{\"x\":3}]", "$[*]", 4, "$[0] 1", "$[1] [2]", "$[2] {\"x\":3}");
        nodes("[1,[2],{\"x\":3}]", "$.*.*", 6, "$[1][0] 2", "$[2]['x'] 3");
        nodes("[]", "$.*", 1);
        nodes("{}", "$.*", 1);
        nodes("null", "$.*", 1);
        nodes("\"abc\"", "$[*]", 1);
        nodes("[1,2]", "$[*,0,*]", 6, "$[0] 1", "$[1] 2", "$[0] 1", "$[0] 1", "$[1] 2");
    }

    private static void slices() {
        slice(":", "abcdefg");
        slice("1:3", "bc");
        slice("5:", "fg");
        slice(":2", "ab");
        slice("1:5:2", "bd");
        slice("5:1:-2", "fd");
        slice("::-1", "gfedcba");
        slice("::2", "aceg");
        slice("::-3", "gda");
        slice("::0", "");
        slice("1:3:0", "");
        slice("3:1", "");
        slice("1:3:-1", "");
        slice("2:2", "");
        slice("-2:", "fg");
        slice(":-5", "ab");
        slice("-3:-1", "ef");
        slice("-100:2", "ab");
        slice("5:100", "fg");
        slice("7:", "");
        slice("100:", "");
        slice(":-100", "");
        slice("100::-1", "gfedcba");
        slice("6::-1", "gfedcba");
        slice("-1:-8:-1", "gfedcba");
        slice("-1:-7:-1", "gfedcb");
        slice(":0:-1", "gfedcb");
        slice(":-1:-1", "");
        slice("-8::-1", "");
        slice("0::-1", "a");
        slice("0:7:7", "a");
        slice("::9007199254740991", "a");
        slice("::-9007199254740991", "g");
        slice("-9007199254740991:9007199254740991:6", "ag");
        slice("9007199254740991:-9007199254740991:-6", "ga");
        nodes("{\"a\":1}", "$[:]", 1);
        nodes("\"abc\"", "$[:]", 1);
        nodes("[]", "$[::-1]", 1);
        nodes("[1,2,3]", "$[2:0:-1,:1]", 4, "$[2] 3", "$[1] 2", "$[0] 1");
    }

    private static void slice(String slice, String letters) {
        String[] lines = new String[letters.length()];
        for (int i = 0; i < lines.length; i++) {
            lines[i] = "$[" + (letters.charAt(i) - 'a') + "] \"" + letters.charAt(i) + "\"";
        }
        nodes(LETTERS, "$[" + slice + "]", 1 + lines.length, lines);
    }

    private static void descent() {
        String json = "{\"o\":{\"j\":1,\"k\":2},\"a\":[5,3,[{\"j\":4},{\"k\":6}]]}";
        nodes(json, "$..j", 1 + 12 + 2, "$['o']['j'] 1", "$['a'][2][0]['j'] 4");
        nodes(json, "$..[0]", 1 + 12 + 2, "$['a'][0] 5", "$['a'][2][0] {\"j\":4}");
        nodes(json, "$..*", 1 + 12 + 11,
                "$['o'] {\"j\":1,\"k\":2}", "$['a'] [5,3,[{\"j\":4},{\"k\":6}]]",
                "$['o']['j'] 1", "$['o']['k'] 2",
                "$['a'][0] 5", "$['a'][1] 3", "$['a'][2] [{\"j\":4},{\"k\":6}]",
                "$['a'][2][0] {\"j\":4}", "$['a'][2][1] {\"k\":6}",
                "$['a'][2][0]['j'] 4", "$['a'][2][1]['k'] 6");
        nodes(json, "$.o..*", 2 + 3 + 2, "$['o']['j'] 1", "$['o']['k'] 2");
        nodes(json, "$.a..[0,1]", 2 + 8 + 4,
                "$['a'][0] 5", "$['a'][1] 3", "$['a'][2][0] {\"j\":4}", "$['a'][2][1] {\"k\":6}");
        nodes("[[[]]]", "$..[*]..[*]", 1 + 3 + 2 + 3 + 1, "$[0][0] []");
        nodes("7", "$..a", 2);
        nodes("7", "$..*", 2);
        nodes("{\"a\":{\"a\":{\"a\":1}}}", "$..a..a", 1 + 4 + 3 + (3 + 2 + 1) + 3,
                "$['a']['a'] {\"a\":1}", "$['a']['a']['a'] 1", "$['a']['a']['a'] 1");
        nodes("[[1],2]", "$..[?@==1]", 1 + 4 + 3 + 3 + 1, "$[0][0] 1");
    }

    private static void order() {
        nodes("[[1,2],[3,4]]", "$[1,0][1,0]", 7, "$[1][1] 4", "$[1][0] 3", "$[0][1] 2", "$[0][0] 1");
        nodes("[[1,2],[3,4]]", "$[*][0,*]", 9,
                "$[0][0] 1", "$[0][0] 1", "$[0][1] 2", "$[1][0] 3", "$[1][0] 3", "$[1][1] 4");
        nodes("{\"x\":{\"b\":1,\"a\":2},\"y\":{\"a\":3}}", "$..['a','b']", 1 + 6 + 3,
                "$['x']['a'] 2", "$['x']['b'] 1", "$['y']['a'] 3");
    }

    private static void paths() {
        nodes("{\"a'b\":1}", "$.*", 2, "$['a\\'b'] 1");
        nodes("{\"a\\\"b\":1}", "$.*", 2, "$['a\"b'] 1");
        nodes("{\"a\\\\b\":1}", "$.*", 2, "$['a\\\\b'] 1");
        nodes("{\"\\b\\t\\n\\f\\r\\u0000\\u001f\\/\\u007f\\u00e9\\ud83d\\ude00\":{\"'\":\"'\\\"\"}}", "$.*", 2,
                "$['\\b\\t\\n\\f\\r\\u0000\\u001f/\\u007f\\u00e9\\ud83d\\ude00'] {\"'\":\"'\\\"\"}");
        nodes("{\"'\":[{\"\\\"\":0}]}", "$..[\"\\\"\"]", 1 + 4 + 1, "$['\\''][0]['\"'] 0");
        nodes("{\" \":{\"a.b\":{\"0\":1}}}", "$[' ']['a.b']['0']", 4, "$[' ']['a.b']['0'] 1");
        nodes("[[[[[[[[[[0,-12]]]]]]]]]]", "$..[1]", 1 + 12 + 1, "$[0][0][0][0][0][0][0][0][0][1] -12");
    }

    private static void filters() {
        nodes("[1,null,false,{\"a\":null},{\"a\":false},{\"b\":1}]", "$[?@.a]", 1 + 6 + 6 + 2 + 2,
                "$[3] {\"a\":null}", "$[4] {\"a\":false}");
        nodes("{\"x\":{\"a\":1},\"y\":{\"b\":1}}", "$[?!@.a]", 1 + 2 + 2 + 1 + 1, "$['y'] {\"b\":1}");
        nodes("[0,1]", "$[?@]", 1 + 2 + 2 + 2, "$[0] 0", "$[1] 1");
        nodes("[0,1]", "$[?$[1]==@]", 1 + 2 + 2 * 3 + 1, "$[1] 1");
        nodes("[0,1]", "$[?$]", 1 + 2 + 2 + 2, "$[0] 0", "$[1] 1");
        nodes("5", "$[?@]", 1);
        nodes("[[1,2],[3],[]]", "$[?@[?@>1]]", 1 + 3 + 3 + 3 + 3 + 2 + 2, "$[0] [1,2]", "$[1] [3]");
        nodes("[[1,2],[3],[]]", "$[?@.*]", 1 + 3 + 3 + 3 + 2, "$[0] [1,2]", "$[1] [3]");
        nodes("[{\"a\":1},{\"a\":2}]", "$[?@.a==2].a", 1 + 2 + 4 + 1 + 1, "$[1]['a'] 2");
        nodes("[{\"a\":1},{\"a\":2}]", "$[?@.a==2,?@.a==1]", 1 + 4 + 8 + 2, "$[1] {\"a\":2}", "$[0] {\"a\":1}");
        nodes("[[0,1],[1,0],[1,1]]", "$[?@[0]==1&&@[1]==1]", 1 + 3 + 6 + 4 + 1, "$[2] [1,1]");
        nodes("[[0,1],[1,0],[0,0]]", "$[?@[0]==1||@[1]==1]", 1 + 3 + 6 + 4 + 2, "$[0] [0,1]", "$[1] [1,0]");
        // @ is each VALUE of the innermost filter, $ always the DOCUMENT.
        nodes("{\"k\":2,\"r\":[[1,2],[3]]}", "$.r[?@[?@==$.k]]", 2 + 2 + 2 + 3 + 3 * 3 + 1 + 1, "$['r'][0] [1,2]");
        asked("1", "(@==1||@==2)&&@==2", false);
        asked("1", "@==1||@==2&&@==2", true);
        asked("1", "@==1||@==1&&@==2", true);
        asked("1", "@==2&&@==1||@==1", true);
        asked("1", "!(@==1)", false);
        asked("1", "!(@==1&&@==2)", true);
        asked("1", "!(!(@==1))", true);
        asked("1", "!@||1==2", false);
        asked("1", "!@.a&&!$.a", true);
    }

    private static void comparisons() {
        String[] operators = {"==", "!=", "<", "<=", ">", ">="};
        compare(operators, "1", "1", "YnnYnY");
        compare(operators, "1", "2", "nYYYnn");
        compare(operators, "2", "-3", "nYnnYY");
        compare(operators, "9007199254740991", "-9007199254740991", "nYnnYY");
        compare(operators, "'a'", "\"a\"", "YnnYnY");
        compare(operators, "'a'", "'b'", "nYYYnn");
        compare(operators, "'a'", "''", "nYnnYY");
        compare(operators, "'a'", "'ab'", "nYYYnn");
        compare(operators, "'Z'", "'a'", "nYYYnn");
        compare(operators, "'10'", "'9'", "nYYYnn");
        compare(operators, "1", "'1'", "nYnnnn");
        compare(operators, "true", "true", "YnnYnY");
        compare(operators, "true", "false", "nYnnnn");
        compare(operators, "false", "true", "nYnnnn");
        compare(operators, "null", "null", "YnnYnY");
        compare(operators, "null", "false", "nYnnnn");
        compare(operators, "null", "0", "nYnnnn");
        compare(operators, "''", "0", "nYnnnn");
        compare(operators, "@.none", "$.none", "YnnYnY");
        compare(operators, "@.none", "null", "nYnnnn");
        compare(operators, "1", "@.none", "nYnnnn");
        compare(operators, "@", "@", "YnnYnY");
        compare(operators, "@", "$", "nYnnnn");
        compare(operators, "@.a", "@.b", "nYnnnn");
    }

    /** The VALUE asked is {"a":[1],"b":[2]}. */
    private static void compare(String[] operators, String left, String right, String answers) {
        for (int i = 0; i < operators.length; i++) {
            asked("{\"a\":[1],\"b\":[2]}", left + " " + operators[i] + " " + right, answers.charAt(i) == 'Y');
        }
    }

    private static void sameValues() {
        pair("1", "1", true);
        pair("0", "-0", true);
        pair("1", "-1", false);
        pair("null", "null", true);
        pair("null", "false", false);
        pair("true", "true", true);
        pair("\"A\"", "\"\\u0041\"", true);
        pair("\"a\"", "\"A\"", false);
        pair("\"ab\"", "\"a\"", false);
        pair("\"1\"", "1", false);
        pair("[]", "[]", true);
        pair("{}", "{}", true);
        pair("[]", "{}", false);
        pair("[]", "null", false);
        pair("[]", "\"\"", false);
        pair("[1,2]", "[1,2]", true);
        pair("[1,2]", "[2,1]", false);
        pair("[1,2]", "[1]", false);
        pair("[1]", "[1,2]", false);
        pair("{\"a\":1,\"b\":2}", "{\"b\":2,\"a\":1}", true);
        pair("{\"a\":1,\"b\":2}", "{\"b\":1,\"a\":2}", false);
        pair("{\"a\":1,\"b\":2}", "{\"a\":1}", false);
        pair("{\"a\":1}", "{\"a\":1,\"b\":2}", false);
        pair("{\"a\":1}", "{\"b\":1}", false);
        pair("{\"a\":1}", "[1]", false);
        pair("{\"a\":[{\"x\":1,\"y\":[null]}],\"b\":{}}", "{\"b\":{},\"a\":[{\"y\":[null],\"x\":1}]}", true);
        pair("{\"a\":[{\"x\":1,\"y\":[null]}],\"b\":{}}", "{\"b\":{},\"a\":[{\"y\":[false],\"x\":1}]}", false);
    }

    private static void pair(String a, String b, boolean same) {
        asked("{\"a\":" + a + ",\"b\":" + b + "}", "@.a==@.b", same);
        asked("{\"a\":" + a + ",\"b\":" + b + "}", "@.b==@.a", same);
        asked("{\"a\":" + a + ",\"b\":" + b + "}", "@.a!=@.b", !same);
    }

    private static void stringOrder() {
        // A pair is above \\uffff as a CHARACTER, though its first UNIT is below.
        asked("\"\\ud83d\\ude00\"", "@>'\\uffff'", true);
        asked("\"\\ud83d\\ude00\"", "@<'\\uffff'", false);
        asked("\"\\ud83d\\ude00\"", "@>'\\ue000'", true);
        asked("\"\\ud83d\\ude00\"", "@>'\\ud7ff'", true);
        asked("\"\\ud83d\\ude00\"", "@<'\\ud83d\\ude01'", true);
        asked("\"\\ud83d\\ude00\"", "@<'\\ud83e\\ude00'", true);
        asked("\"\\ud83d\\udfff\"", "@<'\\ud83e\\udc00'", true);
        asked("\"\\ue000\"", "@<'\\uffff'", true);
        asked("\"\\ud7ff\"", "@<'\\ue000'", true);
        asked("\"x\\ud83d\\ude00\"", "@<'x\\ud83d\\ude00a'", true);
        asked("\"x\\ud83d\\ude00\"", "@<='x\\ud83d\\ude00'", true);
        asked("\"x\\uffffz\"", "@<'x\\ud800\\udc00'", true);
    }

    private static void functions() {
        asked("\"abc\"", "length(@)==3", true);
        asked("\"\"", "length(@)==0", true);
        asked("\"a\\ud83d\\ude00\\ud83d\\ude01b\"", "length(@)==4", true);
        asked("\"\\u00e9\\uffff\\n\"", "length(@)==3", true);
        asked("[1,[2,3],4]", "length(@)==3", true);
        asked("{\"a\":1,\"b\":{\"c\":1}}", "length(@)==2", true);
        asked("[]", "length(@)==0", true);
        asked("{}", "length(@)==0", true);
        asked("5", "length(@)==@.none", true);
        asked("5", "length(@)==5", false);
        asked("null", "length(@)==$.none", true);
        asked("true", "length(@)!=0", true);
        asked("1", "length(@.none)==length(1)", true);
        asked("1", "length('abc')==3", true);
        asked("1", "length(length('abc'))==@.none", true);
        asked("1", "length('ab')<length('abc')", true);
        asked("1", "length('ab')==length('cd')", true);
        asked("1", "length(count(@))==@.none", true);
        asked("[[1,2]]", "length(value(@.*))==2", true);
        asked("1", "length(true)==length(null)", true);
        asked("[1,2,3]", "count(@.*)==3", true);
        asked("[1,[2],3]", "count(@..*)==4", true);
        asked("[1,2,3]", "count(@[0,0,0,9])==3", true);
        asked("1", "count(@.*)==0", true);
        asked("1", "count(@)==1", true);
        asked("[1,2]", "count(@.*)==count($..*)", false);
        asked("[1,2]", "count(@.*)<count($..*)", true);
        asked("[1]", "value(@.*)==1", true);
        asked("[1,1]", "value(@.*)==1", false);
        asked("[1,1]", "value(@.*)==@.none", true);
        asked("[]", "value(@.*)==@.none", true);
        asked("[[1]]", "value(@.*)==@[0]", true);
        asked("{\"x\":{\"a\":\"k\"}}", "value(@..a)=='k'", true);
        nodes("[[1,2],[3]]", "$[?count(@.*)>1]", 1 + 2 + 2 + 3 + 1, "$[0] [1,2]");
        nodes("[[1,2],[3]]", "$[?value(@.*)==3]", 1 + 2 + 2 + 3 + 1, "$[1] [3]");
        nodes("[[1,2],[3]]", "$[?length(@)==1]", 1 + 2 + 2 + 1, "$[1] [3]");
        nodes("[[1,2],[3]]", "$[?length('a')==1]", 1 + 2 + 2, "$[0] [1,2]", "$[1] [3]");
    }

    private static void shortCircuit() {
        nodes("[1,2]", "$[?@==1||@==2]", 1 + 2 + 1 + 2 + 2, "$[0] 1", "$[1] 2");
        nodes("[1,2]", "$[?@==1&&@==1]", 1 + 2 + 2 + 1 + 1, "$[0] 1");
        nodes("[1,2]", "$[?@==9&&$..*]", 1 + 2 + 2);
        nodes("[1,2]", "$[?1==1||$..*]", 1 + 2 + 2, "$[0] 1", "$[1] 2");
        nodes("[1]", "$[?@==2||@==3||@==1||@==4]", 1 + 1 + 3 + 1, "$[0] 1");
        nodes("[1]", "$[?@==1&&@==1&&@==2&&@==1]", 1 + 1 + 3);
        nodes("[1]", "$[?!(@==1||@==2)]", 1 + 1 + 1);
        // Both sides of a comparison are looked at, and a QUERY alone is run to its end.
        nodes("[1]", "$[?@.none<$[0]]", 1 + 1 + 1 + 2);
        nodes("[[1,2,3]]", "$[?@.*]", 1 + 1 + 4 + 1, "$[0] [1,2,3]");
    }

    private static void workLimit() {
        // Each * is 100 NODES.
        String row = "[" + Bench.repeat("0,", 99) + "0]";
        Bench b = new Bench();
        b.load(0, row);
        b.read("$[0" + Bench.repeat(",*", 99) + Bench.repeat(",0", 98) + "]");
        Bench.due("work of 10000", b.work(0), "10000");
        Bench.due("run of 10000", b.run(0), INDEX);
        b.read("$[0" + Bench.repeat(",*", 99) + Bench.repeat(",0", 99) + "]");
        Bench.due("work of 10001", b.work(0), INDEX);
        Bench.due("run of 10001", b.run(0), INDEX);
        // 100 are asked, each asks for 1 + 97 NODES, and nothing is chosen.
        b.read("$[?!$[" + Bench.repeat("0,", 96) + "0]]");
        Bench.due("work in filters", b.work(0), Integer.toString(1 + 100 + 100 * 98));
        Bench.due("run with no NODE", b.run(0), "0");
        b.read("$[?!$[" + Bench.repeat("0,", 97) + "0]]");
        Bench.due("too much work in filters", b.work(0), INDEX);
        b.read("$..[?$..*]");
        Bench.due("too much work", b.work(0), INDEX);
        b.read("$[0]");
        Bench.due("work is counted anew", b.work(0), "2");
        Bench.due("run", b.run(0), "1");
        b.read("$.*.*");
        Bench.due("work", b.work(0), "101");
        b.read("$[" + Bench.repeat("*,", 49) + "*]" + "..a");
        Bench.due("work of 1 + 5000 + 5000 is one too much", b.work(0), INDEX);
        b.read("$[" + Bench.repeat("*,", 48) + "*]" + "..a");
        Bench.due("work of 1 + 4900 + 4900", b.work(0), "9801");
        b.load(3, row);
        b.read("$[" + Bench.repeat("?1==2,", 98) + "?1==2]" );
        Bench.due("work of 1 + 9900", b.work(3), "9901");
        b.read("$[" + Bench.repeat("?1==2,", 98) + "?1==2" + Bench.repeat(",0", 99) + "]");
        Bench.due("work of 10000", b.work(3), "10000");
        b.read("$[" + Bench.repeat("?1==2,", 99) + "?1==2]");
        Bench.due("work of 10001", b.work(3), INDEX);
        Bench.due("run too", b.run(3), INDEX);
    }

    private static void resultLimit() {
        Bench b = new Bench();
        b.load(0, "[7]");
        b.read("$");
        b.run(0);
        // Lines of 8 + 4056 bytes, of 7 bytes and of 8 + 8 bytes: 16256 + 112 + 16 is 16384.
        String query = "$[0,0,0,0" + Bench.repeat(",1", 16) + ",2]";
        b.load(1, "[\"" + Bench.repeat("x", 4056) + "\",0,\"123456789\"]");
        b.read(query);
        Bench.due("16385 bytes", b.run(1), INDEX);
        Bench.due("THE RESULT of before stays", b.result(), "$ [7]\n");
        Bench.due("work does not print", b.work(1), "22");
        b.load(1, "[\"" + Bench.repeat("x", 4056) + "\",0,\"12345678\"]");
        Bench.due("16384 bytes", b.run(1), "21");
        Bench.due("its bytes", b.x.count(1), 16384);
        Bench.due("the last one", b.x.word(16383), 0x0a00000000000000L);
        Bench.due("behind it", Bench.outcome(() -> b.x.word(16384)), INDEX);
        String full = b.result();
        b.read("$[0,0,0,0,0]");
        Bench.due("far too long", b.run(1), INDEX);
        Bench.due("stays", b.result(), full);
        b.load(1, "[\"" + Bench.repeat("\\u0001", 600) + "\"]");
        b.read("$[0,0]");
        Bench.due("in THE RESULT a UNIT takes six bytes", b.run(1), "2");
        Bench.due("its bytes", b.x.count(1), 2 * (8 + 3600));
    }

    /** As deep as may be within one [ more. */
    private static String deepest(String json) {
        return Bench.repeat("[", 31) + json + Bench.repeat("]", 31);
    }

    private static void bigDepth() {
        String deep = Bench.repeat("[", 32) + Bench.repeat("]", 32);
        Bench b = new Bench();
        b.load(0, "[" + deep.substring(1, 63) + "," + deep.substring(1, 63) + "]");
        b.read("$[?@==$[0]]");
        Bench.due("deep VALUES are the same", b.run(0), "2");
        b.load(0, Bench.repeat("[", 32) + "1" + Bench.repeat("]", 32));
        b.read("$[?$==$]");
        Bench.due("the deepest VALUES are the same", b.run(0), "1");
        b.load(2, "[" + deepest("1") + "," + deepest("2") + "]");
        b.read("$[?@==$[0]]");
        Bench.due("the deepest VALUES are not the same", b.run(2), "1");
        b.load(0, deep);
        b.read("$" + Bench.repeat("[0]", 31));
        Bench.due("the deepest", b.run(0), "1");
        Bench.due("its path", b.result(), "$" + Bench.repeat("[0]", 31) + " []\n");
        b.read("$" + Bench.repeat("[?@", 16) + Bench.repeat("]", 16));
        Bench.due("filters one within another", b.run(0), "1");
        b.load(1, Bench.repeat("{\"a\":", 31) + "{\"a\":1}" + Bench.repeat("}", 31));
        b.read("$" + Bench.repeat(".a", 32));
        Bench.due("the deepest name", b.run(1), "1");
        Bench.due("its path", b.result(), "$" + Bench.repeat("['a']", 32) + " 1\n");
    }
}
