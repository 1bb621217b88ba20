/** Every sentence of the document that names an edge of JSON, of SYNTAX and PLACE, or of PRINTED. */
public final class JsonEdgesTest {
    private static final String HEX = "0123456789abcdefABCDEF";
    private static final String BLANKS = "\t\n\r ";

    public static void main(String[] args) {
        blanks();
        blanksAroundSigns();
        nothingAndTooMuch();
        literals();
        numbersBeginningWithZero();
        greatNumbers();
        minusZero();
        pointOrExponent();
        bytesOfStrings();
        lettersBehindBackslash();
        hexDigits();
        units();
        pairs();
        halfPairs();
        depth();
        depthAnswered();
        differentNames();
        placeOfAName();
        placeAtTheEnd();
        placeOfACutCharacter();
        placeFromZero();
        printedWithoutBlanks();
        printedNumbers();
        printedUnits();
        Bench.finish();
    }

    private static void due(String json, String want) {
        Bench.due("load " + json, Bench.json(json), want);
    }

    private static void broken(String json, int place) {
        due(json, "at " + place);
    }

    private static void printed(String json, String want) {
        Bench.due("print " + json, Bench.printed(json), want);
    }

    private static String escaped(int unit) {
        return String.format("\\u%04x", unit);
    }

    private static void blanks() {
        Bench.sentence("Blanks are the bytes 9, 10, 13, 32.");
        for (char b = 0; b < 256; b++) {
            boolean blank = BLANKS.indexOf(b) >= 0;
            due("true" + b, blank ? "0" : "at 4");
            due("{" + b + "}", blank ? "1" : b == '}' ? "at 2" : b == '"' ? "at 3" : "at 1");
        }
        for (char b : new char[] {0, 8, 11, 12, 14, 31, 33, 127, 128, 160, 255}) {
            broken(b + "true", 0);
        }
    }

    private static void blanksAroundSigns() {
        Bench.sentence("blanks before and behind each of these signs, and of a VALUE");
        String[] signs = {"{", "\"a\"", ":", "[", "1", ",", "null", ",", "true", ",", "false", ",", "\"x\"", "]", ",",
            "\"b\"", ":", "{", "}", ",", "\"c\"", ":", "[", "]", "}"};
        String bare = String.join("", signs);
        for (String blank : new String[] {"\t", "\n", "\r", " ", "\t\n\r ", "    "}) {
            printed(blank + String.join(blank, signs) + blank, bare);
        }
        StringBuilder before = new StringBuilder();
        for (String sign : signs) {
            broken(before + "\f" + bare.substring(before.length()), before.length());
            before.append(sign);
        }
        broken(bare + "\f", bare.length());
        broken("[tr ue]", 3);
        broken("[1 2]", 3);
        broken("[- 1]", 2);
        due("[\" \"]", "1");
    }

    private static void nothingAndTooMuch() {
        Bench.sentence("A DOCUMENT is a VALUE.");
        broken("", 0);
        broken(" \t\n\r", 4);
        String[] values = {"null", "true", "false", "0", "-1", "\"\"", "[]", "{}", "[1]", "{\"a\":1}"};
        for (String value : values) {
            due(value, value.indexOf('[') == 0 || value.indexOf('{') == 0 ? "1" : "0");
            broken(value + ",", value.length());
            broken(value + "]", value.length());
            broken(value + " null", value.length() + 1);
            broken("," + value, 0);
        }
    }

    private static void literals() {
        Bench.sentence("VALUE: null | true | false");
        for (String literal : new String[] {"null", "true", "false"}) {
            for (int i = 0; i < literal.length(); i++) {
                broken(literal.substring(0, i), i);
                broken(literal.substring(0, i) + "x" + literal.substring(i + 1), i);
                String upper = literal.substring(i, i + 1).toUpperCase();
                broken(literal.substring(0, i) + upper + literal.substring(i + 1), i);
            }
            broken(literal + literal.charAt(literal.length() - 1), literal.length());
            printed(literal, literal);
        }
    }

    private static void numbersBeginningWithZero() {
        Bench.sentence("NUMBER: [-] 0 or digits that do not begin with 0");
        for (int d = 0; d <= 9; d++) {
            printed(Integer.toString(d), Integer.toString(d));
            broken("0" + d, 1);
            broken("-0" + d, 2);
            broken("[0, 0" + d + "]", 5);
        }
        for (int d = 1; d <= 9; d++) {
            printed(d + "0", d + "0");
            printed("-" + d, "-" + d);
        }
        for (char b = 0; b < 256; b++) {
            if (b < '0' || b > '9') {
                broken("-" + b, 1);
            }
        }
        broken("-", 1);
        broken("+0", 0);
    }

    private static void greatNumbers() {
        Bench.sentence("not above 2^53 - 1 in size; in a NUMBER too great the first one of it");
        for (String most : new String[] {"9007199254740991", "9007199254740990", "9000000000000000", "999999999999999",
            "4294967296", "4294967295", "2147483648", "2147483647"}) {
            printed(most, most);
            printed("-" + most, "-" + most);
        }
        for (String great : new String[] {"9007199254740992", "9007199254740993", "9007199254741000", "9010000000000000",
            "9999999999999999", "10000000000000000", "90071992547409910", "9223372036854775807", "9223372036854775808",
            "18446744073709551615", "18446744073709551616", "18446744073709551617", "184467440737095516160",
            "340282366920938463463374607431768211457", "1" + Bench.repeat("0", 100), Bench.repeat("9", 4000)}) {
            broken(great, 0);
            broken("-" + great, 0);
            broken("  " + great + " ", 2);
            broken("{\"a\":-" + great + "}", 5);
            broken("[1," + great + "x", 3);
        }
    }

    private static void minusZero() {
        Bench.sentence("(- and 0: 0)");
        printed("-0", "0");
        printed("[-0,0,{\"a\":-0}]", "[0,0,{\"a\":0}]");
        Bench.due("-0 == 0", Bench.holds("-0", "@==0"), true);
        Bench.due("-0 < 0", Bench.holds("-0", "@<0"), false);
    }

    private static void pointOrExponent() {
        Bench.sentence("no . e E behind it; likewise where . e E is behind it");
        for (String behind : new String[] {".", "e", "E", ".5", "e5", "E5", "e+5", "E-5", ".0"}) {
            for (String number : new String[] {"0", "-0", "7", "-7", "120", "-9007199254740991", "9007199254740992"}) {
                broken(number + behind, 0);
                broken("\t" + number + behind, 1);
                broken("[-1," + number + behind + "]", 4);
                broken("{\"a\":" + number + behind, 5);
            }
        }
        broken("1 .5", 2);
        broken("1 e5", 2);
        broken("1f", 1);
        broken("1d", 1);
        broken("1,5", 1);
        broken("-.5", 1);
        broken("-e5", 1);
        broken("-E5", 1);
        broken(".5", 0);
        broken("e5", 0);
    }

    private static void bytesOfStrings() {
        Bench.sentence("CHARACTER: a byte 32 .. 126 but \" and \\");
        for (char b = 0; b < 256; b++) {
            if (b == '"') {
                broken("\"\"\"", 2);
            } else if (b == '\\') {
                broken("\"\\\"", 3);
            } else if (b >= 32 && b <= 126) {
                printed("\"" + b + "\"", "\"" + b + "\"");
                printed("{\"x" + b + "\":1}", "{\"x" + b + "\":1}");
            } else {
                broken("\"" + b + "\"", 1);
                broken("{\"x" + b + "\":1}", 3);
            }
        }
        printed("\"\"", "\"\"");
    }

    private static void lettersBehindBackslash() {
        Bench.sentence("or \\ and one of \" \\ / b f n r t");
        String printedAs = "\\\" \\\\ / \\b \\f \\n \\r \\t";
        printed("\"\\\" \\\\ \\/ \\b \\f \\n \\r \\t\"", "\"" + printedAs + "\"");
        for (char b = 0; b < 256; b++) {
            boolean known = "\"\\/bfnrt".indexOf(b) >= 0;
            due("\"ab\\" + b + "\"", known ? "0" : "at 3");
            due("{\"\\" + b + "\":0}", known ? "1" : "at 2");
        }
    }

    private static void hexDigits() {
        Bench.sentence("or \\u and four of 0 .. 9 a .. f A .. F");
        for (int at = 0; at < 4; at++) {
            for (char b = 0; b < 256; b++) {
                String digits = "0041".substring(0, at) + b + "0041".substring(at + 1);
                due("\"a\\u" + digits + "\"", HEX.indexOf(b) >= 0 ? "0" : "at 2");
            }
        }
        for (int digits = 0; digits < 4; digits++) {
            broken("\"a\\u" + "0041".substring(0, digits) + "\"", 2);
        }
        printed("\"\\u00410\"", "\"A0\"");
        broken("\"\\U0041\"", 1);
    }

    private static void units() {
        Bench.sentence("a UNIT, 0 .. 65535");
        printed("\"\\u0000\\uffff\\uFFFF\\uFfFf\"", "\"\\u0000\\uffff\\uffff\\uffff\"");
        printed("\"\\u0fff\\uf000\\u00f0\\u000f\"", "\"\\u0fff\\uf000\\u00f0\\u000f\"");
        printed("{\"\\u0000\":\"\\uffff\"}", "{\"\\u0000\":\"\\uffff\"}");
    }

    private static void pairs() {
        Bench.sentence("A UNIT 55296 .. 56319 and one 56320 .. 57343 behind it are one CHARACTER; either alone is none.");
        int[] edges = {55295, 55296, 55297, 56318, 56319, 56320, 56321, 57342, 57343, 57344, 0, 65535};
        for (int first : edges) {
            boolean firstPlain = first < 55296 || first > 57343;
            due("\"" + escaped(first) + "\"", firstPlain ? "0" : "at 1");
            for (int second : edges) {
                boolean secondPlain = second < 55296 || second > 57343;
                boolean pair = first >= 55296 && first <= 56319 && second >= 56320 && second <= 57343;
                String want = pair || firstPlain && secondPlain ? "0" : firstPlain ? "at 7" : "at 1";
                due("\"" + escaped(first) + escaped(second) + "\"", want);
            }
        }
        Bench.due("a pair is one CHARACTER", Bench.holds("\"\\ud800\\udfff\"", "length(@)==1"), true);
        Bench.due("so are the others", Bench.holds("\"\\udbff\\udc00\"", "length(@)==1"), true);
        Bench.due("two pairs", Bench.holds("\"\\ud800\\udc00\\udbff\\udfff\"", "length(@)==2"), true);
        Bench.due("what is no pair is two", Bench.holds("\"\\ud7ff\\ue000\"", "length(@)==2"), true);
    }

    private static void halfPairs() {
        Bench.sentence("of a CHARACTER that is none its first one (of two UNITS the first, if what is behind it does not fit)");
        for (String behind : new String[] {"", "\"", "x", "xudc00", "\\", "\\\"", "\\n", "\\\\", "\\u", "\\ud", "\\udc", "\\udc0",
            "\\udc0\"", "\\udc0g", "\\u0041", "\\ud800", "\\ue000", "\\xdc00", " \\udc00"}) {
            broken("[\"abc\\ud800" + behind, 5);
            broken("{\"\\udbff" + behind, 2);
        }
        broken("\"\\ud800\\udc00\\ud800\"", 13);
        broken("\"\\ud800\\udc00\\udc00\"", 13);
        broken("\"\\udc00\\ud800\"", 1);
        broken("\"\\ud800\\ud800\\udc00\"", 1);
        broken("\"\\q\"", 1);
        broken("\"ok\\u00zz\"", 3);
    }

    private static void depth() {
        Bench.sentence("At most 32 [ and { are one within another.");
        String[] opens = {"[", "{\"a\":", "[1,", "{\"b\":\"\",\"a\": "};
        for (int mix = 0; mix < 256; mix++) {
            StringBuilder open = new StringBuilder();
            for (int deep = 0; deep < 32; deep++) {
                open.append(opens[mix >> deep % 4 * 2 & 3]);
            }
            broken(open + "1", open.length() + 1);
            broken(open + "[", open.length());
            broken(open + "{", open.length());
        }
        String rows = Bench.repeat("[", 32) + Bench.repeat("]", 32);
        due(rows, "32");
        printed(rows, rows);
        String filled = rows.replace("[]", "[1,\"x\",null]");
        due(filled, "32");
        printed(filled, filled);
        broken(rows.replace("[]", "[[]]"), 32);
        broken(rows.replace("[]", "[1,[]]"), 34);
        broken(rows.replace("[]", "[{}]"), 32);
        String names = Bench.repeat("{\"a\":", 32) + "0" + Bench.repeat("}", 32);
        due(names, "32");
        printed(names, names);
        broken(names.replace("0", "{}"), 32 * 5);
        broken(names.replace("0", "[]"), 32 * 5);
        // What is closed is not one within another.
        due("[" + Bench.repeat("[],", 500) + "[]]", "2");
        due("[" + rows.substring(1, 63) + "," + rows.substring(1, 63) + "]", "32");
    }

    private static void depthAnswered() {
        Bench.sentence("Answers how deep [ and { are in it (0 without any).");
        for (String json : new String[] {"null", "true", "false", "0", "-5", "\"\"", "\"[[{\"", " 1 "}) {
            due(json, "0");
        }
        for (int deep = 1; deep <= 32; deep++) {
            due(Bench.repeat("[", deep) + Bench.repeat("]", deep), Integer.toString(deep));
            due(Bench.repeat("{\"\":", deep) + "1" + Bench.repeat("}", deep), Integer.toString(deep));
        }
        due("[[],[[[]]],[]]", "4");
        due("[[[[]]],1]", "4");
        due("{\"a\":1,\"b\":[{}],\"c\":{}}", "3");
        Bench b = new Bench();
        b.load(0, "[[[]]]");
        Bench.due("counted anew", b.load(1, "[]"), "1");
        b.load(2, "[[[[1,]]]]");
        Bench.due("counted anew behind a broken one", b.load(1, "7"), "0");
    }

    private static void differentNames() {
        Bench.sentence("Names of one { } are different.");
        due("{\"a\":{\"a\":{\"a\":[{\"a\":1},{\"a\":1}]}}}", "5");
        due("[{\"a\":1},{\"a\":1}]", "2");
        due("{\"a\":1,\"A\":1,\"a \":1,\" a\":1,\"\":1,\"aa\":1,\"\\u0000\":1,\"a\\u0000\":1}", "1");
        due("{\"\\ud800\\udc00\":1,\"\\ud800\\udc01\":1,\"\\ud801\\udc00\":1}", "1");
        broken("{\"\":1,\"\":1}", 6);
        broken("{\"a\":1,\"a\":1}", 7);
        broken("{\"a\":1,\"b\":1,\"a\":1}", 13);
        broken("{\"a\":1,\"b\":1,\"b\":1}", 13);
        broken("{\"a\":{\"b\":1},\"c\":[{\"a\":1}],\"a\":1}", 27);
        broken("{\"A\":1,\"\\u0041\":1}", 7);
        broken("{\"\\/\":1,\"/\":1}", 8);
        broken("{\"\\n\":1,\"\\u000A\":1}", 8);
        StringBuilder many = new StringBuilder("{");
        for (int i = 100; i < 400; i++) {
            many.append('"').append(i).append("\":0,");
        }
        due(many + "\"400\":0}", "1");
        broken(many + "\"399\":0}", many.length());
        broken(many + "\"100\":0}", many.length());
    }

    private static void placeOfAName() {
        Bench.sentence("for a name that was there the \" of it");
        broken("{\"a\":1 , \n \"a\" : 2}", 11);
        broken("{\"a\":1,\"a\"}", 7);
        broken("{\"a\":1,\"a\":}", 7);
        broken("{\"a\":1,\"a\"", 7);
        broken("{\"a\":1,\"a\" x", 7);
        // Not yet a name that was there.
        broken("{\"a\":1,\"a", 9);
        broken("{\"a\":1,\"a\\q\":2}", 9);
        broken("{\"a\":1,\"ab", 10);
    }

    private static void placeAtTheEnd() {
        Bench.sentence("SYNTAX is broken at the PLACE of the first byte with which it can't go on (its length at the end)");
        String json = " [ null , true,false , -12 , 0 , \"ab c\" , [ ] , { } , [ [ 1 ] , { \"x\" : { \"y\" : -5 , \"\" : \"\" } } ] ]";
        for (int length = 0; length < json.length(); length++) {
            broken(json.substring(0, length), length);
        }
        due(json, "4");
        // A byte that fits nowhere breaks it wherever it stands.
        for (int at = 0; at <= json.length(); at++) {
            broken(json.substring(0, at) + "\u0001" + json.substring(at), at);
        }
    }

    private static void placeOfACutCharacter() {
        Bench.sentence("of a CHARACTER that is none its first one");
        String[] characters = {"\\n", "\\\"", "\\\\", "\\u0041", "\\uABCD", "\\ud83d\\ude00"};
        for (String character : characters) {
            for (int length = 1; length < character.length(); length++) {
                broken("\"ab" + character.substring(0, length), 3);
                broken("{\"" + character.substring(0, length), 2);
                broken(Bench.repeat(" ", 4095 - length) + "\"" + character.substring(0, length), 4096 - length);
            }
            broken("\"ab" + character, 3 + character.length());
            due("\"ab" + character + "\"", "0");
        }
    }

    private static void placeFromZero() {
        Bench.sentence("PLACE (from 0)");
        String starts = "nft\"[{-0123456789" + BLANKS;
        for (char b = 0; b < 256; b++) {
            if (starts.indexOf(b) < 0) {
                broken(b + "1", 0);
            }
        }
        broken(Bench.repeat(" ", 4000) + "x", 4000);
        Bench full = new Bench();
        for (int i = 0; i < 204; i++) {
            full.x.feed(0x20202020, 0x20202020, 0x20202020, 0x20202020, 0x20202020);
        }
        full.x.end(4076);
        full.x.feed(0x20202020, 0x20202020, 0x20202020, 0x20202020, 0x20202021);
        Bench.due("the last byte of a full TAPE", Bench.outcome(() -> full.x.load(0)), Bench.SYNTAX);
        Bench.due("its place", full.place(), 4095);
        for (int i = 0; i < 204; i++) {
            full.x.feed(0x20202020, 0x20202020, 0x20202020, 0x20202020, 0x20202020);
        }
        full.x.end(4076);
        full.x.feed(0x20202020, 0x20202020, 0x20202020, 0x20202020, 0x20202020);
        Bench.due("the end of a full TAPE", Bench.outcome(() -> full.x.load(0)), Bench.SYNTAX);
        Bench.due("its place", full.place(), 4096);
    }

    private static void printedWithoutBlanks() {
        Bench.sentence("PRINTED: no blanks; names in their order");
        printed(" [ ] ", "[]");
        printed("\t{\n}\r", "{}");
        printed("[ 1 , [ 2 , 3 ] , { } ]", "[1,[2,3],{}]");
        printed("{ \"z\" : 1 , \"a\" : { \"10\" : 2 , \"9\" : 3 , \"\" : 4 } , \"M\" : 5 }",
                "{\"z\":1,\"a\":{\"10\":2,\"9\":3,\"\":4},\"M\":5}");
        printed("\" \"", "\" \"");
    }

    private static void printedNumbers() {
        Bench.sentence("NUMBERS as short as can be");
        long number = 1;
        for (int digits = 1; digits <= 16; digits++) {
            for (long n : new long[] {number - 1, number, number + 1, number * 9}) {
                if (n <= 9007199254740991L) {
                    printed(Long.toString(n), Long.toString(n));
                    printed(n == 0 ? "-0" : Long.toString(-n), Long.toString(-n));
                }
            }
            number *= 10;
        }
    }

    private static void printedUnits() {
        Bench.sentence("in STRINGS \" and \\ with \\ before, 8 9 10 12 13 as \\b \\t \\n \\f \\r, "
                + "other UNITS below 32 and above 126 as \\u and four of 0 .. 9 a .. f");
        for (int from = 0; from < 65536; from += 128) {
            StringBuilder json = new StringBuilder();
            StringBuilder want = new StringBuilder();
            for (int unit = from; unit < from + 128; unit++) {
                boolean half = unit >= 55296 && unit <= 57343;
                json.append(unit >= 56320 && half ? "\\ud800" : "").append(escaped(unit).toUpperCase().replace('U', 'u'));
                json.append(unit < 56320 && half ? "\\udc00" : "");
                want.append(unit >= 56320 && half ? "\\ud800" : "").append(printedUnit(unit));
                want.append(unit < 56320 && half ? "\\udc00" : "");
            }
            printed("\"" + json + "\"", "\"" + want + "\"");
        }
    }

    private static String printedUnit(int unit) {
        switch (unit) {
            case 8:
                return "\\b";
            case 9:
                return "\\t";
            case 10:
                return "\\n";
            case 12:
                return "\\f";
            case 13:
                return "\\r";
            case '"':
                return "\\\"";
            case '\\':
                return "\\\\";
            default:
                return unit >= 32 && unit <= 126 ? Character.toString(unit) : escaped(unit);
        }
    }
}
