/** Every sentence of the document that names an edge of NODES, comparisons, WORK, NODE'S PATH or THE RESULT. */
public final class NodesEdgesTest {
    private static final long MOST = 9007199254740991L;
    private static final String[] OPERATORS = {"==", "!=", "<", "<=", ">", ">="};

    public static void main(String[] args) {
        names();
        all();
        indexes();
        slices();
        filtersAsk();
        descent();
        orderOfNodes();
        nothing();
        length();
        countOfNodes();
        sorts();
        sameValues();
        lessNumbers();
        lessStrings();
        turnedRound();
        queryAlone();
        workIsCounted();
        mostWork();
        workOfOneCall();
        askedIfTheyMust();
        paths();
        numberOfNodes();
        mostResult();
        workOfALongResult();
        Bench.finish();
    }

    private static void due(String json, String query, String... lines) {
        String want = lines.length == 0 ? "" : String.join("\n", lines) + "\n";
        Bench.due(query + " over " + json, Bench.found(json, query), want);
    }

    private static void work(String json, String query, int want) {
        Bench.due("work of " + query + " over " + json, Bench.work(json, query), Integer.toString(want));
    }

    private static void asked(String json, String filter, boolean want) {
        Bench.due(filter + " of " + json, Bench.holds(json, filter), want);
    }

    private static String row(int size) {
        StringBuilder row = new StringBuilder("[");
        for (int i = 0; i < size; i++) {
            row.append(i == 0 ? "" : ",").append(i);
        }
        return row.append("]").toString();
    }

    private static void names() {
        Bench.sentence("NAME, QUOTED: that of the name in { }");
        due("{\"a\":1}", "$.a", "$['a'] 1");
        due("{\"a\":1}", "$['a']", "$['a'] 1");
        due("{\"a\":1}", "$.b");
        due("{\"a\":1}", "$.A");
        due("{\"a\":1}", "$['']");
        due("{}", "$.a");
        due("{\"\":1}", "$['']", "$[''] 1");
        due("{\"ab\":1}", "$.a");
        due("{\"a\":1}", "$.ab");
        for (String other : new String[] {"[]", "[\"a\"]", "[{\"a\":1}]", "\"a\"", "1", "null", "true"}) {
            due(other, "$.a");
            due(other, "$['a']");
            due(other, "$['0']");
        }
    }

    private static void all() {
        Bench.sentence("*: all in { } or [ ]");
        due("{}", "$.*");
        due("[]", "$.*");
        due("[7]", "$.*", "$[0] 7");
        due("{\"b\":1,\"a\":2}", "$[*]", "$['b'] 1", "$['a'] 2");
        for (String other : new String[] {"\"ab\"", "1", "null", "true"}) {
            due(other, "$.*");
            due(other, "$[*]");
        }
    }

    private static void indexes() {
        Bench.sentence("I: at the index of [ ], from the end if below 0");
        for (int size = 0; size <= 4; size++) {
            for (long i : new long[] {-MOST, -4294967296L, -4294967297L, -6, -5, -4, -3, -2, -1, 0, 1, 2, 3, 4, 5, 4294967296L,
                4294967297L, MOST}) {
                long at = i < 0 ? size + i : i;
                if (at >= 0 && at < size) {
                    due(row(size), "$[" + i + "]", "$[" + at + "] " + at);
                } else {
                    due(row(size), "$[" + i + "]");
                }
            }
        }
        for (String other : new String[] {"{\"0\":1,\"-1\":2}", "\"ab\"", "1", "null", "true"}) {
            due(other, "$[0]");
            due(other, "$[-1]");
        }
    }

    private static void slices() {
        Bench.sentence("start : end : step: in [ ] as Python's slices (step 1 if none, 0: none; beyond is cut off)");
        Long[] bounds = {null, -MOST, -4294967296L, -5L, -4L, -3L, -2L, -1L, 0L, 1L, 2L, 3L, 4L, 5L, 4294967296L, MOST};
        Long[] steps = {null, -MOST, -4L, -3L, -2L, -1L, 0L, 1L, 2L, 3L, 4L, 4294967296L, MOST};
        for (int size = 0; size <= 4; size++) {
            for (Long start : bounds) {
                for (Long end : bounds) {
                    for (Long step : steps) {
                        slice(size, start, end, step);
                    }
                }
            }
        }
        for (String other : new String[] {"{\"0\":1}", "\"ab\"", "1", "null", "true"}) {
            due(other, "$[:]");
            due(other, "$[::-1]");
        }
    }

    private static void slice(int size, Long start, Long end, Long step) {
        long by = step == null ? 1 : step;
        long last = by > 0 ? size : size - 1;
        long least = by > 0 ? 0 : -1;
        long from = start == null ? (by > 0 ? 0 : last) : Math.max(least, Math.min(last, start < 0 ? start + size : start));
        long to = end == null ? (by > 0 ? last : -1) : Math.max(least, Math.min(last, end < 0 ? end + size : end));
        StringBuilder want = new StringBuilder();
        for (long i = from; by != 0 && (by > 0 ? i < to : i > to); i += by) {
            want.append("$[" + i + "] " + i + "\n");
        }
        String slice = (start == null ? "" : start) + ":" + (end == null ? "" : end) + (step == null ? "" : ":" + step);
        Bench.due("[" + slice + "] of " + size, Bench.found(row(size), "$[" + slice + "]"), want.toString());
    }

    private static void filtersAsk() {
        Bench.sentence("? OR: all for which it is true, @ being each");
        due("[1,2,1]", "$[?@==1]", "$[0] 1", "$[2] 1");
        due("{\"b\":1,\"a\":2,\"c\":1}", "$[?@==1]", "$['b'] 1", "$['c'] 1");
        due("[]", "$[?1==1]");
        due("{}", "$[?1==1]");
        for (String other : new String[] {"\"ab\"", "1", "null", "true"}) {
            due(other, "$[?1==1]");
            work(other, "$[?1==1]", 1);
        }
        // What is asked are the VALUES in it, not itself.
        due("{\"a\":1}", "$[?@.a]");
        due("[[5]]", "$[?@[0]==5]", "$[0] [5]");
    }

    private static void descent() {
        Bench.sentence(".. : of the NODE itself, and then of all that is in it, each before what is in it, those chosen from each");
        due("{\"a\":{\"a\":{\"a\":1}}}", "$..a", "$['a'] {\"a\":{\"a\":1}}", "$['a']['a'] {\"a\":1}", "$['a']['a']['a'] 1");
        due("[[[1],2],3]", "$..[0]", "$[0] [[1],2]", "$[0][0] [1]", "$[0][0][0] 1");
        due("[[[1],2],3]", "$..*", "$[0] [[1],2]", "$[1] 3", "$[0][0] [1]", "$[0][1] 2", "$[0][0][0] 1");
        due("{\"x\":[{\"k\":1}],\"k\":{\"k\":2},\"y\":{\"k\":3}}", "$..k",
                "$['k'] {\"k\":2}", "$['x'][0]['k'] 1", "$['k']['k'] 2", "$['y']['k'] 3");
        due("[[1,2],[3]]", "$..[-1,0]", "$[1] [3]", "$[0] [1,2]", "$[0][1] 2", "$[0][0] 1", "$[1][0] 3", "$[1][0] 3");
        for (String scalar : new String[] {"1", "\"a\"", "null", "[]", "{}"}) {
            due(scalar, "$..*");
            due(scalar, "$..a");
            work(scalar, "$..*", 2);
        }
        // Only what is in the NODE, not what comes behind it in the DOCUMENT.
        due("[[1],[2,[3]]]", "$[0]..*", "$[0][0] 1");
        due("[[1],[2,[3]]]", "$[1]..*", "$[1][0] 2", "$[1][1] [3]", "$[1][1][0] 3");
        String deep = Bench.repeat("[", 32) + "7" + Bench.repeat("]", 32);
        Bench.due("as deep as may be", Bench.found(deep, "$..[?@==7]"), "$" + Bench.repeat("[0]", 32) + " 7\n");
    }

    private static void orderOfNodes() {
        Bench.sentence("A SEGMENT takes each NODE, in order, to what its SELECTORS, in order, choose");
        due("[[1,2],[3,4]]", "$[1,0][1,0]", "$[1][1] 4", "$[1][0] 3", "$[0][1] 2", "$[0][0] 1");
        due("[1,2]", "$[0,0,:,*,-1,?@==1]", "$[0] 1", "$[0] 1", "$[0] 1", "$[1] 2", "$[0] 1", "$[1] 2", "$[1] 2", "$[0] 1");
        due("[[1],[2]]", "$[0,0][0]", "$[0][0] 1", "$[0][0] 1");
        due("[1,2]", "$[5,1,5]", "$[1] 2");
        due("[]", "$[0].a..*");
    }

    private static void nothing() {
        Bench.sentence("SINGULAR, value: the only NODE's VALUE, or NOTHING (none, or not just one)");
        asked("{\"a\":1}", "@.a==1", true);
        asked("{\"a\":null}", "@.a==null", true);
        asked("{\"a\":1}", "@.b==null", false);
        asked("{\"a\":1}", "@.b==@.c", true);
        asked("{\"a\":1}", "@.b!=@.c", false);
        asked("{\"a\":1}", "@.b==@.a", false);
        asked("{\"a\":1}", "@.b<=@.c", true);
        asked("{\"a\":1}", "@.b>=@.c", true);
        asked("{\"a\":1}", "@.b<@.c", false);
        asked("{\"a\":1}", "@.b>@.c", false);
        for (String op : new String[] {"==", "<", "<=", ">", ">="}) {
            asked("{\"a\":1}", "@.b" + op + "1", false);
            asked("{\"a\":1}", "1" + op + "@.b", false);
            asked("{\"a\":1}", "@.b" + op + "null", false);
        }
        asked("[]", "value(@.*)==@.none", true);
        asked("[5]", "value(@.*)==5", true);
        asked("[5]", "value(@.*)==@.none", false);
        asked("[5,5]", "value(@.*)==5", false);
        asked("[5,5]", "value(@.*)==@.none", true);
        asked("[5]", "value(@[0,0])==@.none", true);
        asked("[5]", "value(@)==@", true);
        asked("[[]]", "value(@..*)==@[0]", true);
    }

    private static void length() {
        Bench.sentence("length: how many CHARACTERS of a STRING, how many in [ ], in { }; of others and NOTHING: NOTHING");
        String[] with = {"\"\"", "[]", "{}", "\"a\"", "[0]", "{\"a\":0}", "[[1,2,3]]", "{\"a\":{\"b\":1,\"c\":2}}", "\"\\n\"", "\"\\u0000\"",
            "\"\\uffff\"", "\"\\ud800\\udc00\"", "\"\\udbff\\udfff\"", "\"a\\ud83d\\ude00\"", "\"\\ud83d\\ude00\\ud83d\\ude00\"",
            "[null,null]", "{\"a\":1,\"b\":2}", "\"\\\\\\\"\""};
        int[] lengths = {0, 0, 0, 1, 1, 1, 1, 1, 1, 1, 1, 1, 1, 2, 2, 2, 2, 2};
        for (int i = 0; i < with.length; i++) {
            asked(with[i], "length(@)==" + lengths[i], true);
            asked(with[i], "length(@)==@.none", false);
            asked(with[i], "length(@)<" + (lengths[i] + 1), true);
        }
        for (String without : new String[] {"0", "12", "null", "true", "false"}) {
            asked(without, "length(@)==@.none", true);
            asked(without, "length(@)==0", false);
            asked(without, "length(" + without + ")==@.none", true);
        }
        asked("1", "length(@.none)==@.none", true);
        asked("1", "length(value(@.*))==@.none", true);
        asked("1", "length(length('abc'))==@.none", true);
        asked("1", "length(count(@))==@.none", true);
        asked("1", "length('')==0", true);
        asked("1", "length('\\ud83d\\ude00x')==2", true);
        Bench.due("a long one", Bench.holds("\"" + Bench.repeat("x", 4000) + "\"", "length(@)==4000"), true);
        Bench.due("many", Bench.found("[" + "[" + Bench.repeat("0,", 1999) + "0]]", "$[?length(@)==2000][0]"), "$[0][0] 0\n");
    }

    private static void countOfNodes() {
        Bench.sentence("count: how many NODES");
        asked("[]", "count(@.*)==0", true);
        asked("[]", "count(@)==1", true);
        asked("[1,2]", "count(@.*)==2", true);
        asked("[1,2]", "count(@[0,0,1,9])==3", true);
        asked("[1,[2]]", "count(@..*)==3", true);
        asked("[1,2]", "count(@.none)==0", true);
        asked("[1,2]", "count(@.none)==@.none", false);
        asked("[1,2]", "count(@[?@>1])==1", true);
        asked("[1,2]", "count($)==1", true);
        asked("[1,2]", "count(@.*)>count(@)", true);
        asked("[1,2]", "count(@.*)==count(@[0,1])", true);
    }

    private static void sorts() {
        Bench.sentence("== : the same VALUE (of one sort), or both NOTHING; < : both NUMBERS, or both STRINGS; a <= b: < or ==; != not ==");
        String[] values = {"null", "true", "false", "0", "\"\"", "\"0\"", "[]", "{}", "[0]", "{\"0\":0}", "1"};
        for (int i = 0; i < values.length; i++) {
            for (int j = 0; j < values.length; j++) {
                String pair = "[" + values[i] + "," + values[j] + "]";
                boolean less = values[i].equals("0") && values[j].equals("1") || i == 4 && j == 5;
                boolean more = values[i].equals("1") && values[j].equals("0") || i == 5 && j == 4;
                boolean[] want = {i == j, i != j, less, less || i == j, more, more || i == j};
                for (int k = 0; k < OPERATORS.length; k++) {
                    asked(pair, "@[0]" + OPERATORS[k] + "@[1]", want[k]);
                }
            }
            boolean[] nothing = {false, true, false, false, false, false};
            for (int k = 0; k < OPERATORS.length; k++) {
                asked("[" + values[i] + "]", "@[0]" + OPERATORS[k] + "@[1]", nothing[k]);
                asked("[" + values[i] + "]", "@[1]" + OPERATORS[k] + "@[0]", nothing[k]);
            }
        }
    }

    private static void sameValues() {
        Bench.sentence("Two VALUES are the same if both are the same NUMBER, STRINGS of the same UNITS, the same of null, true and false, "
                + "[ ] with as many VALUES that are the same one by one, or { } with the same names (in whatever order), each with the same VALUE.");
        same("-0", "0", true);
        same(MOST + "", MOST + "", true);
        same(MOST + "", (MOST - 1) + "", false);
        same("4294967296", "0", false);
        same("\"\\u0041\\/\\n\"", "\"A/\\u000a\"", true);
        same("\"\"", "\"\\u0000\"", false);
        same("\"a\"", "\"a\\u0000\"", false);
        same("\"\\ud800\\udc00\"", "\"\\uD800\\uDC00\"", true);
        same("\"\\ud800\\udc00\"", "\"\\ud800\\udc01\"", false);
        same("[1,2]", "[1,2]", true);
        same("[1,2]", "[2,1]", false);
        same("[1,2]", "[1,2,3]", false);
        same("[1,2]", "[1]", false);
        same("[]", "[null]", false);
        same("[[]]", "[[]]", true);
        same("[[]]", "[{}]", false);
        same("{\"a\":1,\"b\":2,\"c\":3}", "{\"c\":3,\"a\":1,\"b\":2}", true);
        same("{\"a\":1,\"b\":2}", "{\"a\":2,\"b\":1}", false);
        same("{\"a\":1,\"b\":2}", "{\"a\":1,\"c\":2}", false);
        same("{\"a\":1,\"b\":2}", "{\"a\":1}", false);
        same("{\"a\":1}", "{\"A\":1}", false);
        same("{\"\":null}", "{}", false);
        same("{\"\\u0061\":[{\"y\":1,\"x\":[]}]}", "{\"a\":[{\"x\":[],\"y\":1}]}", true);
        same("{\"a\":[{\"y\":1,\"x\":[]}]}", "{\"a\":[{\"x\":[0],\"y\":1}]}", false);
        for (String inner : new String[] {"[1]", "{\"a\":1}"}) {
            String deep = Bench.repeat("[", 31) + inner + Bench.repeat("]", 31);
            Bench.due("as deep as may be", Bench.work(deep, "$[?$==$]"), Integer.toString(1 + 1 + 2 + 1));
        }
        // The pair is one [ deep, each of it 31 more: 32.
        String a = Bench.repeat("[", 31) + "1" + Bench.repeat("]", 31);
        String b = Bench.repeat("[", 31) + "2" + Bench.repeat("]", 31);
        Bench.due("deep, the same", Bench.work("[" + a + "," + a + "]", "$[?@==$[0]]"), Integer.toString(1 + 2 + 2 * 3 + 2));
        Bench.due("deep, not the same", Bench.work("[" + a + "," + b + "]", "$[?@==$[0]]"), Integer.toString(1 + 2 + 2 * 3 + 1));
    }

    private static void same(String a, String b, boolean same) {
        String pair = "[" + a + "," + b + "]";
        asked(pair, "@[0]==@[1]", same);
        asked(pair, "@[1]==@[0]", same);
        asked(pair, "@[0]!=@[1]", !same);
    }

    /** From the least to the greatest: each pair of them in both orders, by all OPs. */
    private static void ascending(String[] values) {
        for (int i = 0; i < values.length; i++) {
            for (int j = 0; j < values.length; j++) {
                boolean[] want = {i == j, i != j, i < j, i <= j, i > j, i >= j};
                for (int k = 0; k < OPERATORS.length; k++) {
                    asked("[" + values[i] + "," + values[j] + "]", "@[0]" + OPERATORS[k] + "@[1]", want[k]);
                }
            }
        }
    }

    private static void lessNumbers() {
        Bench.sentence("< : both NUMBERS");
        ascending(new String[] {"-" + MOST, "-4294967297", "-4294967296", "-2147483649", "-10", "-9", "-1", "-0", "1", "2", "9", "10", "2147483648",
            "4294967295", "4294967296", "4294967297", (MOST - 1) + "", MOST + ""});
    }

    private static void lessStrings() {
        Bench.sentence("or both STRINGS, by CHARACTERS (a pair of UNITS is 65536 and more)");
        ascending(new String[] {"\"\"", "\"\\u0000\"", "\"\\u0000\\u0000\"", "\"\\u0001\"", "\" \"", "\"0\"", "\"10\"", "\"9\"", "\"A\"", "\"Z\"",
            "\"a\"", "\"a\\u0000\"", "\"aa\"", "\"ab\"", "\"a\\ud7ff\"", "\"a\\ue000\"", "\"a\\uffff\"", "\"a\\ud800\\udc00\"", "\"b\"", "\"\\u007f\"",
            "\"\\ud7ff\"", "\"\\ue000\"", "\"\\ufffe\"", "\"\\uffff\"", "\"\\uffffz\"", "\"\\ud800\\udc00\"", "\"\\ud800\\udc00a\"",
            "\"\\ud800\\udc00\\ud800\\udc00\"", "\"\\ud800\\udc01\"", "\"\\ud800\\udfff\"", "\"\\ud801\\udc00\"", "\"\\udbff\\udfff\""});
    }

    private static void turnedRound() {
        Bench.sentence("a <= b: < or ==; != not ==; > >= turned round");
        asked("[[1],[1]]", "@[0]<=@[1]", true);
        asked("[[1],[1]]", "@[0]>=@[1]", true);
        asked("[[1],[1]]", "@[0]<@[1]", false);
        asked("[[1],[2]]", "@[0]<=@[1]", false);
        asked("[[1],[2]]", "@[0]>=@[1]", false);
        asked("[true,true]", "@[0]<=@[1]", true);
        asked("[false,true]", "@[0]<=@[1]", false);
        asked("[2,1]", "@[0]>@[1]", true);
        asked("[1,2]", "@[0]>@[1]", false);
    }

    private static void queryAlone() {
        Bench.sentence("A QUERY alone: it has a NODE.");
        for (String value : new String[] {"null", "false", "0", "\"\"", "[]", "{}", "true"}) {
            asked("{\"a\":" + value + "}", "@.a", true);
            asked("{\"a\":" + value + "}", "!@.a", false);
            asked("{\"b\":" + value + "}", "@.a", false);
            asked("{\"b\":" + value + "}", "!@.a", true);
            asked(value, "@", true);
        }
        asked("[]", "@.*", false);
        asked("[0]", "@.*", true);
        asked("[0,0]", "@.*", true);
        asked("[]", "$", true);
        asked("[]", "$[0]", true);
        asked("[]", "$[1]", false);
    }

    private static void workIsCounted() {
        Bench.sentence("WORK: each NODE that comes into a list (the first one of a QUERY, those that SELECTORS choose), each VALUE that .. comes "
                + "to (the NODE itself, too), and each time that a filter is asked of a VALUE, is one");
        work("7", "$", 1);
        work("7", "$.a.b.c", 1);
        work("[7]", "$[0]", 2);
        work("[7]", "$[0,0,0]", 4);
        work("[7]", "$[1]", 1);
        work("[7,[8,9]]", "$.*.*", 1 + 2 + 2);
        work("7", "$..a", 1 + 1);
        work("[7,[8,9]]", "$..a", 1 + 5);
        work("[7,[8,9]]", "$..*", 1 + 5 + 4);
        work("[7,[8,9]]", "$..*..*", 1 + 5 + 4 + (1 + 3 + 1 + 1) + 2);
        work("[7,8]", "$[?1==2]", 1 + 2);
        work("[7,8]", "$[?1==1]", 1 + 2 + 2);
        work("[7,8]", "$[?@]", 1 + 2 + 2 + 2);
        work("[7,8]", "$[?!@]", 1 + 2 + 2);
        work("[7,8]", "$[?@==7]", 1 + 2 + 2 + 1);
        work("[7,8]", "$[?$[0]==@]", 1 + 2 + 2 * (2 + 1) + 1);
        work("[7,8]", "$[?count($.*)==0]", 1 + 2 + 2 * 3);
        work("[7,8]", "$[?value($.*)==0]", 1 + 2 + 2 * 3);
        work("[7,8]", "$[?length($)==0]", 1 + 2 + 2);
        work("[7,8]", "$[?count($..*)==0]", 1 + 2 + 2 * (1 + 3 + 2));
        work("[7,8]", "$[?$[?1==2]]", 1 + 2 + 2 * (1 + 2));
        work("[[7,8]]", "$..[?1==2]", 1 + 4 + 1 + 2);
    }

    private static String times(String selector, int times) {
        return Bench.repeat(selector + ",", times);
    }

    /** What is given is just 10000; with one NODE more at its front it is too much. */
    private static void most(String json, String front, String back) {
        Bench b = Bench.ready(json, front + back);
        Bench.due("just enough " + front + back, b.work(0), "10000");
        Bench more = Bench.ready(json, front + "0," + back);
        Bench.due("one more " + front + back, more.work(0), Bench.INDEX);
        Bench.due("one more, run " + front + back, more.run(0), Bench.INDEX);
        Bench.due("nothing is told", more.x.count(1), 0);
    }

    private static void mostWork() {
        Bench.sentence("more than 10000 in a call: IndexOutOfBoundsException");
        String json = "{\"r\":[" + Bench.repeat("0,", 99) + "0]}";
        // $ and r are two; the last one is in turn a NODE, a VALUE that .. comes to, one asked, a QUERY's first one.
        most(json, "$.r[" + times("0", 98), times("*", 98) + "*]");
        most(json, "$.r[" + times("0", 98), times("?1==2", 98) + "?1==2]");
        most(json, "$.r[" + times("0", 198), times("?!@", 48) + "?!@]");
        most(json, "$.r[" + times("0", 98), times("?@==1 && @==1 || @[0]==1 && 1==1", 32) + "?1==2,?1==2,?1==2]");
        Bench b = Bench.ready(json, "$.r[" + times("*", 49) + times("0", 98) + "0]..a");
        Bench.due("just enough ..", b.work(0), "10000");
        Bench.due("no NODE is left of it", b.run(0), "0");
        b = Bench.ready(json, "$.r[" + times("*", 49) + times("0", 99) + "0]..a");
        Bench.due("too much ..", b.work(0), Bench.INDEX);
        Bench.due("too much .., run", b.run(0), Bench.INDEX);
        b = Bench.ready(json, "$.r[?count($..*)>=0]");
        Bench.due("too much in filters", b.work(0), Bench.INDEX);
        b = Bench.ready(json, "$..*..*..*..*[" + times("*", 900) + "*]");
        Bench.due("few", b.work(0), Integer.toString(1 + 102 + 101 + 201 + 100 + 100));
    }

    private static void workOfOneCall() {
        Bench.sentence("more than 10000 in a call");
        String json = "[" + Bench.repeat("0,", 99) + "0]";
        Bench b = Bench.ready(json, "$[" + times("?1==2", 98) + "?1==2]");
        for (int i = 0; i < 20; i++) {
            Bench.due("work is counted anew", b.work(0), "9901");
            Bench.due("run is counted anew", b.run(0), "0");
        }
        b = Bench.ready(json, "$[" + times("*", 99) + "*]");
        Bench.due("too much", b.work(0), Bench.INDEX);
        Bench.due("too much", b.run(0), Bench.INDEX);
        b.read("$[0]");
        Bench.due("anew after it", b.work(0), "2");
        Bench.due("anew after it", b.run(0), "1");
    }

    private static void askedIfTheyMust() {
        Bench.sentence("|| and && ask what is behind them if they must.");
        // Each @ asked is one; the VALUE itself is asked once, and chosen or not.
        work("[1]", "$[?@==1||@==1]", 1 + 1 + 1 + 1);
        work("[1]", "$[?@==2||@==1]", 1 + 1 + 2 + 1);
        work("[1]", "$[?@==2||@==2]", 1 + 1 + 2);
        work("[1]", "$[?@==2&&@==1]", 1 + 1 + 1);
        work("[1]", "$[?@==1&&@==2]", 1 + 1 + 2);
        work("[1]", "$[?@==1&&@==1]", 1 + 1 + 2 + 1);
        work("[1]", "$[?@==2&&@==1||@==1]", 1 + 1 + 2 + 1);
        work("[1]", "$[?@==1||@==1&&@==1]", 1 + 1 + 1 + 1);
        work("[1]", "$[?(@==2||@==1)&&@==1]", 1 + 1 + 3 + 1);
        work("[1]", "$[?!(@==1||@==1)&&@==1]", 1 + 1 + 1);
        work("[1]", "$[?@==2||@==2||@==1||@==1||@==1]", 1 + 1 + 3 + 1);
        work("[1]", "$[?@==1&&@==1&&@==2&&@==1&&@==1]", 1 + 1 + 3);
        for (int at = 0; at < 5; at++) {
            String[] each = {"@==1", "@==1", "@==1", "@==1", "@==1"};
            each[at] = "@==2";
            asked("1", String.join("&&", each), false);
            String[] other = {"@==2", "@==2", "@==2", "@==2", "@==2"};
            other[at] = "@==1";
            asked("1", String.join("||", other), true);
        }
        // What is not asked may be as much as it will.
        String row = "[" + Bench.repeat("0,", 199) + "0]";
        Bench.due("not asked", Bench.work(row, "$[?1==1||count($..*)==0]"), "401");
        Bench.due("not asked", Bench.work(row, "$[?1==2&&count($..*)==0]"), "201");
        Bench.due("asked", Bench.work(row, "$[?1==2||count($..*)==0]"), Bench.INDEX);
        Bench.due("asked", Bench.work(row, "$[?1==1&&count($..*)==0]"), Bench.INDEX);
    }

    private static void paths() {
        Bench.sentence("NODE'S PATH: $ and for each step [ index ] or [ ' name ' ], in it ' and \\ with \\ before, else as PRINTED (\" plain), no blanks.");
        due("7", "$", "$ 7");
        due("[[1]]", "$[0][0]", "$[0][0] 1");
        due("{\"\":0}", "$.*", "$[''] 0");
        due("{\" \":0}", "$.*", "$[' '] 0");
        due("{\"a b\":{\"0\":[1]}}", "$..[0]", "$['a b']['0'][0] 1");
        for (int unit = 0; unit < 256; unit++) {
            String name = String.format("\\u%04x", unit);
            String want = unit == '\'' ? "\\'" : unit == '"' ? "\"" : unit == '\\' ? "\\\\" : unit == 8 ? "\\b" : unit == 9 ? "\\t"
                    : unit == 10 ? "\\n" : unit == 12 ? "\\f" : unit == 13 ? "\\r" : unit >= 32 && unit <= 126 ? Character.toString(unit) : name;
            due("{\"x" + name + "y\":0}", "$.*", "$['x" + want + "y'] 0");
        }
        due("{\"\\uABCD\\ud83d\\uDE00\\uffff\":\"'\"}", "$.*", "$['\\uabcd\\ud83d\\ude00\\uffff'] \"'\"");
        due("[" + Bench.repeat("0,", 1000) + "5]", "$[1000]", "$[1000] 5");
        due("[" + Bench.repeat("0,", 10) + "5]", "$[9,10]", "$[9] 0", "$[10] 5");
    }

    private static void numberOfNodes() {
        Bench.sentence("Answers how many NODES.");
        Bench.due("one", Bench.ready("7", "$").run(0), "1");
        Bench.due("none", Bench.ready("7", "$.a").run(0), "0");
        Bench.due("none", Bench.ready("[]", "$..*").run(0), "0");
        Bench.due("many", Bench.ready("[" + Bench.repeat("0,", 999) + "0]", "$.*").run(0), "1000");
        Bench.due("as often as chosen", Bench.ready("[7]", "$[0,0,*,:]").run(0), "4");
        Bench b = Bench.ready("7", "$");
        b.run(0);
        b.read("$.a");
        Bench.due("none", b.run(0), "0");
        Bench.due("THE RESULT is empty", b.x.count(1), 0);
        Bench.due("it has no byte", Bench.outcome(() -> b.x.word(0)), Bench.INDEX);
    }

    private static void mostResult() {
        Bench.sentence("more than 16384, or too much WORK: IndexOutOfBoundsException (THE RESULT of before stays)");
        // Four lines of 4094 bytes, and one of 6 and the digits.
        String text = "[\"" + Bench.repeat("x", 4086) + "\",";
        Bench b = Bench.ready(text + "12]", "$[0,0,0,0,1]");
        Bench.due("16384 bytes", b.run(0), "5");
        Bench.due("its bytes", b.x.count(1), 16384);
        Bench.due("its last line", b.x.word(16376), 0x245b315d2031320aL);
        Bench.due("its last byte", b.x.word(16383), 0x0a00000000000000L);
        Bench.due("behind it", Bench.outcome(() -> b.x.word(16384)), Bench.INDEX);
        b.load(1, "[1]");
        b.read("$[0]");
        Bench.due("a short one behind it", b.run(1), "1");
        Bench.due("nothing is left of the long one", b.x.word(0), 0x245b305d20310a00L);
        for (String number : new String[] {"123", "1234"}) {
            Bench c = Bench.ready("7", "$");
            c.run(0);
            c.load(1, text + number + "]");
            c.read("$[0,0,0,0,1]");
            Bench.due("16385 bytes and more", c.run(1), Bench.INDEX);
            Bench.due("THE RESULT of before stays", c.result(), "$ 7\n");
        }
        Bench c = Bench.ready("7", "$");
        c.run(0);
        c.load(1, text + "12]");
        c.read("$[0,0,0,0,1,1]");
        Bench.due("a whole line more", c.run(1), Bench.INDEX);
        Bench.due("THE RESULT of before stays", c.result(), "$ 7\n");
        c.read("$[" + times("0", 98) + "0]");
        Bench.due("far more", c.run(1), Bench.INDEX);
        Bench.due("THE RESULT of before stays", c.result(), "$ 7\n");
        c.load(1, "[" + Bench.repeat("0,", 199) + "0]");
        c.read("$[?count($..*)==0]");
        Bench.due("too much WORK", c.run(1), Bench.INDEX);
        Bench.due("THE RESULT of before stays", c.result(), "$ 7\n");
        Bench.due("no other DOCUMENT is touched", c.run(0), "0");
    }

    private static void workOfALongResult() {
        Bench.sentence("(THE RESULT stays, and might be longer than 16384); too much: IndexOutOfBoundsException");
        Bench b = Bench.ready("7", "$");
        b.run(0);
        b.load(1, "[\"" + Bench.repeat("x", 4000) + "\"]");
        b.read("$[" + times("0", 99) + "0]");
        Bench.due("it is too long", b.run(1), Bench.INDEX);
        Bench.due("its work is told", b.work(1), "101");
        Bench.due("THE RESULT stays", b.result(), "$ 7\n");
        b.load(1, "[" + Bench.repeat("0,", 199) + "0]");
        b.read("$[" + times("*", 49) + "*]");
        Bench.due("too much", b.work(1), Bench.INDEX);
        Bench.due("THE RESULT stays", b.result(), "$ 7\n");
        b.read("$[" + times("*", 48) + "*]");
        Bench.due("enough", b.work(1), "9801");
        Bench.due("THE RESULT stays", b.result(), "$ 7\n");
    }
}
