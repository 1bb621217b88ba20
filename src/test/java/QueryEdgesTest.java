/** Every sentence of the document that names an edge of what a QUERY is, and where it is broken. */
public final class QueryEdgesTest {
    private static final String BLANKS = "\t\n\r ";
    private static final String LETTERS = "abcdefghijklmnopqrstuvwxyzABCDEFGHIJKLMNOPQRSTUVWXYZ_";
    private static final String DIGITS = "0123456789";
    private static final String MOST = "9007199254740991";
    private static final String[] GREAT = {"9007199254740992", "9999999999999999", "10000000000000000",
        "9223372036854775808", "18446744073709551615", "18446744073709551616", "18446744073709551617",
        "1" + Bench.repeat("0", 60)};

    public static void main(String[] args) {
        fromTheRoot();
        blanksBeforeSegments();
        names();
        segmentsCutOff();
        blanksAroundSelectors();
        kindsOfSelectors();
        slices();
        integers();
        greatIntegers();
        bytesOfQuoted();
        lettersBehindBackslash();
        unitsOfQuoted();
        orAndAnd();
        negations();
        operators();
        whatIsCompared();
        functionNames();
        singularQueries();
        singularBehindOperator();
        anyQueryBeforeOperator();
        open();
        openIsClosedAgain();
        blanksBehindAQuery();
        placeAtTheEnd();
        placeOfACutCharacter();
        Bench.finish();
    }

    private static void due(String query, String want) {
        Bench.due("read " + query, Bench.query(query), want);
    }

    private static void broken(String query, int place) {
        due(query, "at " + place);
    }

    private static boolean in(String bytes, char b) {
        return bytes.indexOf(b) >= 0;
    }

    private static void fromTheRoot() {
        Bench.sentence("QUERY (RFC 9535): $ SEGMENTS.");
        broken("", 0);
        due("$", "1");
        for (char b = 0; b < 256; b++) {
            if (b != '$') {
                broken(Character.toString(b), 0);
                broken(b + "$", 0);
            }
            broken("$" + b, in(BLANKS + ".[", b) ? 2 : 1);
        }
    }

    private static void blanksBeforeSegments() {
        Bench.sentence("SEGMENT: [blanks] and . NAME | . * | [ SELECTORS ] | .. NAME | .. * | .. [ SELECTORS ]");
        for (String segment : new String[] {".a", ".*", "[0]", "..a", "..*", "..[0]"}) {
            String singular = segment.equals(".a") || segment.equals("[0]") ? "1" : "0";
            due("$" + segment, singular);
            due("$" + segment + segment, singular);
            for (char b = 0; b < 256; b++) {
                if (in(BLANKS, b)) {
                    due("$" + b + segment, singular);
                    due("$" + b + b + segment + b + segment, singular);
                } else if (!in(".[", b)) {
                    broken("$" + b + segment, 1);
                }
            }
        }
        broken("$. a", 2);
        broken("$. *", 2);
        broken("$. .a", 2);
        broken("$.. a", 3);
        broken("$.. *", 3);
        broken("$.. [0]", 3);
        broken("$.[0]", 2);
        broken("$...a", 3);
        broken(" $", 0);
    }

    private static void names() {
        Bench.sentence("NAME: a letter or _, then letters, digits, _ as many as follow.");
        for (char b = 0; b < 256; b++) {
            boolean first = in(LETTERS, b);
            boolean other = first || in(DIGITS, b);
            due("$." + b, first ? "1" : b == '*' ? "0" : b == '.' ? "at 3" : "at 2");
            due("$.." + b, first || b == '*' ? "0" : b == '[' ? "at 4" : "at 3");
            due("$.a" + b, other ? "1" : in(BLANKS + ".[", b) ? "at 4" : "at 3");
            due("$._" + b + "z.a", other || in(".", b) ? "1" : in(BLANKS, b) ? "at 4" : b == '[' ? "at 4" : "at 3");
            due("$.*" + b, in(BLANKS + ".[", b) ? "at 4" : "at 3");
        }
        due("$." + LETTERS + DIGITS, "1");
        due("$." + Bench.repeat("a", 4000), "1");
        Bench.due("all of it is the name", Bench.found("{\"a\":1,\"a1_Z\":2}", "$.a1_Z"), "$['a1_Z'] 2\n");
    }

    private static void segmentsCutOff() {
        Bench.sentence("the first byte with which it can't go on (its length at the end)");
        broken("$.", 2);
        broken("$..", 3);
        broken("$[", 2);
        broken("$..[", 4);
        broken("$.a.", 4);
        broken("$.a[", 4);
        broken("$.a ", 4);
        broken("$.a \t\r\n", 7);
    }

    private static void blanksAroundSelectors() {
        Bench.sentence("SELECTORS: SELECTOR {, SELECTOR}, with blanks around each.");
        String[] selectors = {"'a'", "\"a\"", "*", "0", "-1", "1:2", ":", "?@", "?1==1"};
        for (String s : selectors) {
            String alone = "'a' \"a\" 0 -1".contains(s) ? "1" : "0";
            due("$[" + s + "]", alone);
            for (char blank : BLANKS.toCharArray()) {
                due("$[" + blank + s + "]", alone);
                due("$[" + s + blank + "]", alone);
                due("$[" + blank + blank + s + blank + "," + blank + s + blank + blank + "]", "0");
            }
            due("$[" + s + "," + s + "]", "0");
            due("$[" + s + Bench.repeat("," + s, 300) + "]", "0");
            broken("$[" + s + ",]", 3 + s.length());
            broken("$[" + s + ", ]", 4 + s.length());
            broken("$[," + s + "]", 2);
            broken("$[ ," + s + "]", 3);
            broken("$[" + s + ",," + s + "]", 3 + s.length());
            broken("$[" + s + ")", 2 + s.length());
        }
        broken("$[]", 2);
        broken("$[ ]", 3);
    }

    private static void kindsOfSelectors() {
        Bench.sentence("SELECTOR: ' QUOTED ' | \" QUOTED \" | * | I | [I] : [I] [ : [I]] (blanks around each) | ? OR");
        for (char b = 0; b < 256; b++) {
            String only = in(DIGITS, b) ? "1" : in("*:", b) ? "0" : in("'\"", b) ? "at 4"
                    : in("-?" + BLANKS, b) ? "at 3" : "at 2";
            due("$[" + b + "]", only);
            due("$['a'" + b + "]", in(BLANKS, b) ? "1" : in(",]", b) ? "at 6" : "at 5");
            due("$[0" + b + "]", in(BLANKS, b) ? "1" : b == ':' ? "0" : in(",]", b) ? "at 4" : "at 3");
            due("$[*" + b + "]", in(BLANKS, b) ? "0" : in(",]", b) ? "at 4" : "at 3");
            due("$[1" + b + "]", in(BLANKS + DIGITS, b) ? "1" : b == ':' ? "0" : in(",]", b) ? "at 4" : "at 3");
        }
    }

    private static void slices() {
        Bench.sentence("[I] : [I] [ : [I]] (blanks around each)");
        for (String i : new String[] {"", "0", "5", "-1", MOST, "-" + MOST}) {
            for (String j : new String[] {"", "0", "7", "-12"}) {
                for (String k : new String[] {null, "", "0", "3", "-3"}) {
                    for (String blank : new String[] {"", " ", "\t", "\n", "\r", "\t\n\r "}) {
                        String slice = blank + i + blank + ":" + blank + j + blank;
                        slice += k == null ? "" : ":" + blank + k + blank;
                        due("$[" + slice + "]", "0");
                        due("$[" + slice + "," + slice + "]", "0");
                    }
                }
            }
        }
        broken("$[1:2:3:4]", 7);
        broken("$[:::]", 4);
        broken("$[1:2 3]", 6);
        broken("$[1 2:3]", 4);
        broken("$[1:2:3 4]", 8);
        broken("$[1:a]", 4);
        broken("$[1:'a']", 4);
        broken("$[1:*]", 4);
        broken("$['a':1]", 5);
        broken("$[*:1]", 3);
        broken("$[1:", 4);
        broken("$[1:2:", 6);
        broken("$[1:-", 5);
        broken("$[- 1:]", 3);
    }

    private static void integers() {
        Bench.sentence("I: 0 or [-] digits that do not begin with 0");
        // What stands around an I, and what a good one answers.
        String[] fronts = {"$[", "$[1:", "$[1:2:", "$[", "$[?@==", "$[?", "$[?@[", "$[?@=='',"};
        String[] backs = {"]", "]", "]", ":]", "]", "==@]", "]]", "]"};
        for (int n = 0; n < fronts.length; n++) {
            String front = fronts[n];
            int at = front.length();
            String good = n == 0 ? "1" : "0";
            for (String i : new String[] {"0", "1", "9", "10", "-1", "-9", "-10", "100", MOST, "-" + MOST}) {
                due(front + i + backs[n], good);
            }
            for (String digit : DIGITS.split("")) {
                broken(front + "0" + digit + backs[n], at + 1);
                broken(front + "-0" + digit + backs[n], at + 1);
                broken(front + "0" + digit, at + 1);
            }
            broken(front + "-0" + backs[n], at + 1);
            broken(front + "-" + backs[n], at + 1);
            broken(front + "-", at + 1);
            broken(front + "- 1" + backs[n], at + 1);
            broken(front + "--1" + backs[n], at + 1);
            broken(front + "+1" + backs[n], at);
            broken(front + "1.0" + backs[n], at + 1);
            broken(front + "1e0" + backs[n], at + 1);
            broken(front + "12E0" + backs[n], at + 2);
            broken(front + "0x1" + backs[n], at + 1);
        }
    }

    private static void greatIntegers() {
        Bench.sentence("not above 2^53 - 1 in size (else broken at its first byte)");
        for (String great : GREAT) {
            for (String sign : new String[] {"", "-"}) {
                String i = sign + great;
                broken("$[" + i + "]", 2);
                broken("$[" + i, 2);
                broken("$[ " + i + "]", 3);
                broken("$[0," + i + "]", 4);
                broken("$[" + i + ":]", 2);
                broken("$[:" + i + "]", 3);
                broken("$[::" + i + "]", 4);
                broken("$[1 : 2 : " + i + " ]", 10);
                broken("$..[" + i + "]", 4);
                broken("$[?@==" + i + "]", 6);
                broken("$[?" + i + "==@]", 3);
                broken("$[?length(" + i + ")==1]", 10);
                broken("$[?@[" + i + "]]", 5);
                broken("$[?1==@[" + i + "]]", 8);
            }
        }
    }

    private static void bytesOfQuoted() {
        Bench.sentence("QUOTED: as CHARACTERS of JSON, but of ' and \" the one that stands around it needs \\ before, "
                + "and the other one none");
        for (char quote : new char[] {'\'', '"'}) {
            for (char b = 0; b < 256; b++) {
                String text = "$[" + quote + "x" + b + quote + "]";
                if (b == quote) {
                    broken(text, 5);
                } else if (b == '\\') {
                    // The quote behind it is a CHARACTER now, and so is the ].
                    broken(text, text.length());
                } else if (b >= 32 && b <= 126) {
                    due(text, "1");
                } else {
                    broken(text, 4);
                }
            }
            due("$[" + quote + quote + "]", "1");
            broken("$[" + quote, 3);
            broken("$[" + quote + "]", 4);
        }
        String json = "{\"'\":1,\"\\\"\":2,\"''\":3}";
        Bench.due("' in \"", Bench.found(json, "$[\"'\"]"), "$['\\''] 1\n");
        Bench.due("\\' in '", Bench.found(json, "$['\\'']"), "$['\\''] 1\n");
        Bench.due("\" in '", Bench.found(json, "$['\"']"), "$['\"'] 2\n");
        Bench.due("\\\" in \"", Bench.found(json, "$[\"\\\"\"]"), "$['\"'] 2\n");
        Bench.due("'' in \"", Bench.found(json, "$[\"''\"]"), "$['\\'\\''] 3\n");
    }

    private static void lettersBehindBackslash() {
        Bench.sentence("the other one none (\\ before that is no CHARACTER)");
        for (char quote : new char[] {'\'', '"'}) {
            for (char b = 0; b < 256; b++) {
                boolean known = b == quote || in("\\/bfnrt", b);
                due("$[" + quote + "x\\" + b + quote + "]", known ? "1" : "at 4");
                due("$[?@==" + quote + "\\" + b + quote + "]", known ? "0" : "at 7");
            }
        }
        broken("$['\\\"']", 3);
        broken("$[\"\\'\"]", 3);
    }

    private static void unitsOfQuoted() {
        Bench.sentence("QUOTED: as CHARACTERS of JSON (UNITS and pairs)");
        for (int at = 0; at < 4; at++) {
            for (char b = 0; b < 256; b++) {
                String digits = "0041".substring(0, at) + b + "0041".substring(at + 1);
                due("$['\\u" + digits + "']", in("0123456789abcdefABCDEF", b) ? "1" : "at 3");
            }
        }
        due("$['\\ud800\\udc00\\uDBFF\\uDFFF\\ud7ff\\ue000\\uffff\\u0000']", "1");
        for (String none : new String[] {"\\ud800", "\\udbff", "\\udc00", "\\udfff", "\\ud800\\ud800", "\\ud800\\u0041",
            "\\ud800\\n", "\\ud800\\'", "\\ud800x", "\\udc00\\ud800", "\\u", "\\u0", "\\u00", "\\u004", "\\ud800\\u"}) {
            broken("$['" + none + "']", 3);
            broken("$['xy" + none + "']", 5);
            broken("$[?'" + none + "'==@]", 4);
        }
    }

    private static void orAndAnd() {
        Bench.sentence("OR: AND {|| AND}. AND: BASIC {&& BASIC}; blanks between all of these.");
        String[] basics = {"@", "!@.a", "(@)", "!(@)", "1==1", "$..*"};
        for (String basic : basics) {
            int end = 3 + basic.length();
            due("$[?" + basic + "]", "0");
            for (String sign : new String[] {"||", "&&"}) {
                due("$[?" + basic + Bench.repeat(sign + basic, 300) + "]", "0");
                for (String blank : new String[] {"", " ", "\t", "\n", "\r", "\t\n\r "}) {
                    due("$[?" + blank + basic + blank + sign + blank + basic + blank + "]", "0");
                    due("$[?(" + blank + basic + blank + sign + blank + basic + blank + ")]", "0");
                }
                String half = sign.substring(1);
                broken("$[?" + basic + half + basic + "]", end + 1);
                broken("$[?" + basic + half + " " + half + basic + "]", end + 1);
                broken("$[?" + basic + sign + half + basic + "]", end + 2);
                broken("$[?" + basic + sign + "]", end + 2);
                broken("$[?" + basic + sign, end + 2);
                broken("$[?" + basic + half, end + 1);
                broken("$[?" + sign + basic + "]", 3);
            }
            broken("$[?" + basic + " " + basic + "]", end + 1);
        }
        broken("$[?]", 3);
        broken("$[?", 3);
        broken("$[? ]", 4);
        broken("$[??@]", 3);
    }

    private static void negations() {
        Bench.sentence("BASIC: [!] ( OR ) | C OP C | [!] (QUERY from @ or $)");
        due("$[?!@]", "0");
        due("$[?!$]", "0");
        due("$[?! \t@.a]", "0");
        due("$[?!(@)]", "0");
        due("$[?! (@)]", "0");
        due("$[?!(!(!@))]", "0");
        due("$[?!(1==1)]", "0");
        broken("$[?!!@]", 4);
        broken("$[?! !@]", 5);
        broken("$[?!!(@)]", 4);
        broken("$[?!]", 4);
        broken("$[?!", 4);
        broken("$[?()]", 4);
        broken("$[?( )]", 5);
        broken("$[?(]", 4);
        broken("$[?(@]", 5);
        broken("$[?(@", 5);
        broken("$[?@)]", 4);
        broken("$[?(@))]", 6);
        for (String c : new String[] {"1", "'a'", "true", "false", "null", "length(@)", "count(@)", "value(@)"}) {
            broken("$[?!" + c + "]", 4);
            broken("$[?!" + c + "==1]", 4);
            broken("$[?" + c + "]", 3 + c.length());
            broken("$[?" + c + "&&@]", 3 + c.length());
            broken("$[?(" + c + ")]", 4 + c.length());
            broken("$[?(" + c + ")==1]", 4 + c.length());
            broken("$[?1==(" + c + ")]", 6);
        }
        for (String op : new String[] {"==", "!=", "<", "<=", ">", ">="}) {
            broken("$[?!@.a" + op + "1]", 7);
            broken("$[?!@.a " + op + "1]", 8);
            broken("$[?(@)" + op + "1]", 6);
        }
    }

    private static void operators() {
        Bench.sentence("OP: == != <= >= < >");
        String[] signs = {"=", "!", "<", ">"};
        for (String a : signs) {
            operator(a);
            for (String b : signs) {
                operator(a + b);
                for (String c : signs) {
                    operator(a + b + c);
                }
            }
        }
        for (String op : new String[] {"==", "!=", "<=", ">=", "<", ">"}) {
            for (String blank : new String[] {"", " ", "\t", "\n", "\r", "\t\n\r "}) {
                due("$[?1" + blank + op + blank + "2]", "0");
            }
            broken("$[?1" + op + "]", 4 + op.length());
            broken("$[?1" + op, 4 + op.length());
            broken("$[?1" + op + " ", 5 + op.length());
            broken("$[?" + op + "1]", op.startsWith("!") ? 4 : 3);
            broken("$[?1" + op + "1" + op + "1]", 5 + op.length());
        }
        broken("$[?1= =1]", 5);
        broken("$[?1! =1]", 5);
        broken("$[?1< =1]", 6);
        broken("$[?1> =1]", 6);
        broken("$[?1 1]", 5);
    }

    /** Between 1 and 1: the longest OP is taken, and what is over can't go on. */
    private static void operator(String signs) {
        String most = signs.length() > 1 ? signs.substring(0, 2) : signs;
        String want;
        if (most.equals("==") || most.equals("!=") || most.equals("<=") || most.equals(">=")) {
            want = signs.length() == 2 ? "0" : "at 6";
        } else if (most.startsWith("<") || most.startsWith(">")) {
            want = signs.length() == 1 ? "0" : "at 5";
        } else {
            want = "at 5";
        }
        due("$[?1" + signs + "1]", want);
    }

    private static void whatIsCompared() {
        Bench.sentence("C: I | ' QUOTED ' | \" QUOTED \" | true | false | null | SINGULAR | length( C ) | "
                + "count( QUERY from @ or $ ) | value( QUERY likewise ), blanks within the ( )");
        String[] all = {"0", "-1", MOST, "''", "'a'", "\"\"", "true", "false", "null", "@", "$", "@.a", "$['a'][0]",
            "length(@)", "length(1)", "length('')", "length(true)", "length(null)", "length(length(@))", "length(count(@))",
            "length(value(@))", "count(@)", "count($..*)", "count(@[?@.a])", "value(@)", "value($..*)", "value(@[0,1])"};
        for (String left : all) {
            for (String right : all) {
                due("$[?" + left + "==" + right + "]", "0");
            }
            for (String blank : new String[] {" ", "\t", "\n", "\r", "\t\n\r "}) {
                due("$[?length(" + blank + left + blank + ")==1]", "0");
            }
        }
        due("$[?count( \t@.* \n)==value(\r$..a )]", "0");
        for (char b = 0; b < 256; b++) {
            if (!in(DIGITS + "-'\"tfnlcv@$" + BLANKS, b)) {
                broken("$[?1==" + b + "]", 6);
                broken("$[?length(" + b + ")==1]", 10);
            }
            if (!in("@$" + BLANKS, b)) {
                broken("$[?count(" + b + ")==1]", 9);
                broken("$[?value(" + b + ")==1]", 9);
            }
            if (!in(DIGITS + "-'\"tfnlcv@$!(" + BLANKS, b)) {
                broken("$[?" + b + "]", 3);
            }
        }
        broken("$[?length()==1]", 10);
        broken("$[?count()==1]", 9);
        broken("$[?value( )==1]", 10);
        broken("$[?length(@,@)==1]", 11);
        broken("$[?count(@,@)==1]", 10);
        broken("$[?value(@]", 10);
        broken("$[?count(@==1)==1]", 10);
        broken("$[?1==[1]]", 6);
        broken("$[?1=={}]", 6);
    }

    private static void functionNames() {
        Bench.sentence("true | false | null | length( | count( | value(");
        for (String word : new String[] {"true", "false", "null", "length(", "count(", "value("}) {
            for (int i = 1; i < word.length(); i++) {
                broken("$[?" + word.substring(0, i), 3 + i);
                broken("$[?1==" + word.substring(0, i), 6 + i);
                broken("$[?" + word.substring(0, i) + "]", 3 + i);
                broken("$[?" + word.substring(0, i) + "X" + word.substring(i + 1), 3 + i);
                broken("$[?1==" + word.substring(0, i) + " " + word.substring(i), 6 + i);
            }
            broken("$[?" + word.toUpperCase(), 3);
        }
        broken("$[?truee==1]", 7);
        broken("$[?1==nulll]", 10);
        broken("$[?match(@,'a')]", 3);
        broken("$[?search(@,'a')]", 3);
    }

    private static void singularQueries() {
        Bench.sentence("SINGULAR: a QUERY with SEGMENTS . NAME, [ QUOTED ], [ I ] alone. Answers 1 if it is SINGULAR, else 0.");
        String[] single = {"", ".a", "['a']", "[\"a\"]", "[ 'a' ]", "[0]", "[-1]", "[\t0\n]", " .a", "\r['']"};
        String[] others = {".*", "[*]", "..a", "..*", "..[0]", "..['a']", "[0,0]", "['a','a']", "[:]", "[0:1]", "[0:1:1]", "[?@]"};
        for (String first : single) {
            for (String second : single) {
                due("$" + first + second, "1");
                due("$[?@" + first + second + "==1]", "0");
                due("$[?1==$" + first + second + "]", "0");
                due("$[?length(@" + first + second + ")==1]", "0");
            }
            for (String other : others) {
                due("$" + first + other, "0");
                due("$" + other + first, "0");
                due("$" + first + other + first, "0");
            }
        }
    }

    private static void singularBehindOperator() {
        Bench.sentence("A C that is a QUERY behind OP or in length( ) is read as SINGULAR");
        for (String front : new String[] {"$[?1==@", "$[?1 < $", "$[?length(@", "$[?1==length($", "$[?1==@.a", "$[?1==@[0]['b'] "}) {
            int at = front.length();
            broken(front + ".*", at + 1);
            broken(front + "..a", at + 1);
            broken(front + "..*", at + 1);
            broken(front + "..[0]", at + 1);
            broken(front + "[*]", at + 1);
            broken(front + "[ *]", at + 2);
            broken(front + "[:]", at + 1);
            broken(front + "[?@]", at + 1);
            broken(front + "[0,1]", at + 2);
            broken(front + "[0 ,1]", at + 3);
            broken(front + "['a',0]", at + 4);
            broken(front + "[0:1]", at + 2);
            broken(front + "[0 : 1]", at + 3);
            broken(front + "[]", at + 1);
            broken(front + "[@]", at + 1);
            broken(front + ".", at + 1);
            broken(front + "[", at + 1);
            broken(front + "[0", at + 2);
            broken(front + "['a'", at + 4);
        }
        // In count( ) and value( ) it may be any.
        due("$[?1==count(@.*)]", "0");
        due("$[?1==value(@..[0,1:2,?@])]", "0");
        due("$[?length(value(@.*))==length(count(@..*))]", "0");
    }

    private static void anyQueryBeforeOperator() {
        Bench.sentence("one before OP as any QUERY, and OP can't go on if it is not SINGULAR");
        String[] others = {".*", "[*]", "..a", "..*", "..[0]", "[0,0]", "['a','a']", "[:]", "[0:1]", "[?@]", ".a.*", "..a.b"};
        for (String other : others) {
            for (String op : new String[] {"==", "!=", "<=", ">=", "<", ">", "=", "!"}) {
                broken("$[?@" + other + op + "1]", 4 + other.length());
                broken("$[?(@" + other + " " + op + " 1)]", 6 + other.length());
                broken("$[?@&&$" + other + "\t\n" + op + "1]", 9 + other.length());
            }
            due("$[?@" + other + "]", "0");
            due("$[?!$" + other + " ]", "0");
            due("$[?@" + other + "&&$" + other + "]", "0");
        }
    }

    private static void open() {
        Bench.sentence("At most 16 ( and [ are open at a time: the byte of one more is one with which it can't go on.");
        // Behind the first [ of $[? there may be 15 more; each row is what opens, and what closes it.
        String[] opens = {"(", "!(", "@[?", "!@[?", "$..[?", "! ( ", "@ [ ?"};
        String[] closes = {")", ")", "]", "]", "]", ")", "]"};
        for (int n = 0; n < opens.length; n++) {
            int sign = opens[n].indexOf('(') >= 0 ? opens[n].indexOf('(') : opens[n].indexOf('[');
            due("$[?" + Bench.repeat(opens[n], 15) + "@" + Bench.repeat(closes[n], 15) + "]", "0");
            broken("$[?" + Bench.repeat(opens[n], 16) + "@" + Bench.repeat(closes[n], 16) + "]",
                    3 + 15 * opens[n].length() + sign);
            broken("$[?" + Bench.repeat(opens[n], 15) + "@[0]" + Bench.repeat(closes[n], 15) + "]",
                    3 + 15 * opens[n].length() + 1);
            due("$[?" + Bench.repeat(opens[n], 14) + "@[0]" + Bench.repeat(closes[n], 14) + "]", "0");
        }
        String front = "$[?" + Bench.repeat("(", 15);
        String back = Bench.repeat(")", 15) + "]";
        due(front + "@.a==$.b" + back, "0");
        broken(front + "@['a']" + back, 19);
        broken(front + "@==@['a']" + back, 22);
        broken(front + "@..[0]" + back, 21);
        broken(front + "length(@)==1" + back, 24);
        broken(front + "count(@)==1" + back, 23);
        broken(front + "value(@)==1" + back, 23);
        broken(front + "1==length(@)" + back, 27);
        broken(front + "length", 24);
        front = "$[?" + Bench.repeat("(", 14);
        back = Bench.repeat(")", 14) + "]";
        due(front + "length(@)==1" + back, "0");
        broken(front + "length(@[0])==1" + back, 17 + 8);
        broken(front + "length(length(@))==1" + back, 17 + 13);
        broken(front + "count(@[0])==1" + back, 17 + 7);
        due("$[?" + Bench.repeat("length(", 15) + "@" + Bench.repeat(")", 15) + "==1]", "0");
        broken("$[?" + Bench.repeat("length(", 16) + "@" + Bench.repeat(")", 16) + "==1]", 3 + 15 * 7 + 6);
        due("$" + Bench.repeat("[?@", 16) + Bench.repeat("]", 16), "0");
        broken("$" + Bench.repeat("[?@", 17) + Bench.repeat("]", 17), 49);
        due("$" + Bench.repeat("[?count(@", 8) + Bench.repeat(")==1]", 8), "0");
        broken("$" + Bench.repeat("[?count(@", 9) + Bench.repeat(")==1]", 9), 1 + 8 * 9);
        broken("$[?" + Bench.repeat("(", 4000), 18);
    }

    private static void openIsClosedAgain() {
        Bench.sentence("are open at a time");
        due("$" + Bench.repeat("[0]", 1300), "1");
        due("$" + Bench.repeat("[?@]", 1000), "0");
        due("$[?(@)" + Bench.repeat("&&(@)", 700) + "]", "0");
        due("$[?@" + Bench.repeat("[0]", 1000) + "==1]", "0");
        due("$[?length(@)==1" + Bench.repeat("||count(@)==value(@)", 180) + "]", "0");
        due("$[?@" + Bench.repeat(",?(@[0])", 400) + "]", "0");
        String deep = "$[?" + Bench.repeat("(", 15) + "@" + Bench.repeat(")", 15) + "]";
        due(deep + deep.substring(1) + deep.substring(1), "0");
        Bench b = new Bench();
        Bench.due("broken with 16 open", b.read("$[?" + Bench.repeat("(", 15)), Bench.SYNTAX);
        Bench.due("none of them is open any more", b.read(deep), "0");
    }

    private static void blanksBehindAQuery() {
        Bench.sentence("Blanks behind a QUERY with no SEGMENT behind them belong to what is around it; "
                + "at its end they are followed by what can't go on, or by the end.");
        for (String blanks : new String[] {" ", "\t", "\n", "\r", "\t\n\r ", "      "}) {
            int n = blanks.length();
            broken("$" + blanks, 1 + n);
            broken("$.a" + blanks, 3 + n);
            broken("$[0]" + blanks, 4 + n);
            broken("$..*" + blanks, 4 + n);
            broken("$" + blanks + "x", 1 + n);
            broken("$.a" + blanks + "b", 3 + n);
            broken("$[0]" + blanks + "]", 4 + n);
            broken("$[?@]" + blanks + "$", 5 + n);
            due("$.a" + blanks + ".b" + blanks + "[0]", "1");
            due("$[?@" + blanks + "]", "0");
            due("$[?@.a" + blanks + "&&@" + blanks + ".b" + blanks + "]", "0");
            due("$[?(@" + blanks + ")]", "0");
            due("$[?@" + blanks + "==@" + blanks + "]", "0");
            due("$[?count(@" + blanks + ")==length(@" + blanks + ")]", "0");
            broken("$[?@" + blanks + "x]", 4 + n);
            broken("$[?@" + blanks + "@]", 4 + n);
            broken("$[?count(@" + blanks + "x)==1]", 10 + n);
        }
    }

    private static void placeAtTheEnd() {
        Bench.sentence("SYNTAX is broken at the PLACE of the first byte with which it can't go on (its length at the end)");
        String query = "$[ 'ab' , \"c\" , * , -12 , 1 : -2 : 30 , ? ! ( @ .a [ 0 ] == 'x' || $..b && ! @.* )"
                + " && length( @['q'] ) <= count( $..[ * ] ) || value( @ ) != null && true < false ]";
        for (int length = 0; length < query.length(); length++) {
            due(query.substring(0, length), length == 1 ? "1" : "at " + length);
        }
        due(query, "0");
        // A byte that fits nowhere breaks it wherever it stands.
        for (int at = 0; at <= query.length(); at++) {
            broken(query.substring(0, at) + "\u0001" + query.substring(at), at);
        }
        due(query + query.substring(1), "0");
    }

    private static void placeOfACutCharacter() {
        Bench.sentence("of a CHARACTER that is none its first one");
        for (String character : new String[] {"\\n", "\\'", "\\\\", "\\u0041", "\\ud83d\\ude00"}) {
            for (int length = 1; length < character.length(); length++) {
                broken("$['ab" + character.substring(0, length), 5);
                broken("$[?@=='" + character.substring(0, length), 7);
            }
            broken("$['ab" + character, 5 + character.length());
            due("$['ab" + character + "']", "1");
        }
    }
}
