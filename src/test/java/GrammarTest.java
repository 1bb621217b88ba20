import java.util.ArrayDeque;
import java.util.Deque;
import java.util.HashSet;
import java.util.Random;
import java.util.Set;

/**
 * Made-up texts, most of them with a byte or a word wrong: load and read take those that the document's
 * rules take, and tell the PLACE that its sentence on SYNTAX names. The rules stand here as the document
 * writes them, and Grammar goes along with them in all ways at once.
 */
public final class GrammarTest {
    private static final int TEXTS = 8000;
    private static final long MOST_NUMBER = 9007199254740991L;
    private static final String[] JSON_WORDS = {
        "[", "]", "{", "}", ",", ":", "\"", "\\", " ", "\t", "\n", "\r", "-", "0", "1", "9", ".", "e", "E", "null", "true",
        "false", "n", "u", "\\u", "d", "8", "c", "F", "\\ud800", "\\udc00", "\\udbff", "\\udfff", "\\n", "\\/", "'", "\\'",
        "\"a\"", "\"b\":", "{\"a\":", ",\"a\"", "9007199254740991", "9007199254740992", "-9007199254740992", "\0", "\b",
        "\u007e", "\u007f", "\u0080", "\u00ff"};
    private static final String[] QUERY_WORDS = {
        "$", "@", ".", "..", "*", "[", "]", "'", "\"", "?", ":", ",", "-", "0", "1", "9", "(", ")", "!", "=", "==", "!=",
        "<", ">", "<=", ">=", "&", "|", "&&", "||", " ", "\t", "\n", "\r", "a", "_", "Z", "g", "true", "false", "null",
        "length(", "count(", "value(", "l", "t", "\\", "\\u", "d8", "\\ud800", "\\udc00", "\\'", "\\\"", "\\/", "@.a", "$.b",
        "@.*", "@[0]", "'a'", "\"b\"", "[0]", "['a']", "1==", "==1", "9007199254740991", "9007199254740992",
        "-9007199254740992", "\0", "\u007e", "\u007f", "\u0080", "\u00e1"};

    private static final Grammar JSON = json();
    private static final Grammar QUERY = query();
    private static final Random RANDOM = new Random(9535);

    public static void main(String[] args) {
        for (int i = 0; i < TEXTS; i++) {
            lookAtJson(changed(deeper(made(JSON, "Document")), JSON_WORDS));
            lookAtQuery(changed(deeperFilter(made(QUERY, "Query")), QUERY_WORDS));
        }
        Bench.finish();
    }

    private static Grammar json() {
        Grammar g = signs()
                .rule("Document", "S Value S")
                .rule("Value", "null", "true", "false", "Number", "String", "[ S ]", "[ Values ]", "{ S }", "{ Members }")
                .rule("Values", "S Value S", "Values , S Value S")
                .rule("Members", "Member", "Members , Member")
                .rule("Member", "S String S : S Value S")
                .rule("Number", "0", "Positive", "- 0", "- Positive")
                .rule("String", "\" Characters \"")
                .rule("Characters", "", "Characters Character");
        return characters(g, "Character", "<plain>", "\"");
    }

    private static Grammar query() {
        Grammar g = signs()
                .oneOf("name-first", "_abcdefghijklmnopqrstuvwxyzABCDEFGHIJKLMNOPQRSTUVWXYZ")
                .oneOf("name-next", "_abcdefghijklmnopqrstuvwxyzABCDEFGHIJKLMNOPQRSTUVWXYZ0123456789")
                .rule("Query", "$ Segments")
                .rule("Inside", "@ Segments", "$ Segments")
                .rule("Segments", "", "Segments S Segment")
                .rule("Segment", ". Name", ". *", "[ Selectors ]", ".. Name", ".. *", ".. [ Selectors ]")
                .rule("Name", "<name-first>", "Name <name-next>")
                .rule("Selectors", "S Selector S", "Selectors , S Selector S")
                .rule("Selector", "Quoted", "*", "I", "Slice", "? S Or")
                .rule("Slice", "Maybe S : S Maybe", "Maybe S : S Maybe S : S Maybe")
                .rule("Maybe", "", "I")
                .rule("I", "0", "Positive", "- Positive")
                .rule("Or", "And", "Or S || S And")
                .rule("And", "Basic", "And S && S Basic")
                .rule("Basic", "( S Or S )", "! S ( S Or S )", "C S Op S C", "Inside", "! S Inside")
                .rule("Op", "==", "!=", "<=", ">=", "<", ">")
                .rule("C", "I", "Quoted", "true", "false", "null", "Singular", "length( S C S )", "count( S Inside S )",
                        "value( S Inside S )")
                .rule("Singular", "@ Steps", "$ Steps")
                .rule("SingularQuery", "$ Steps")
                .rule("Steps", "", "Steps S Step")
                .rule("Step", ". Name", "[ S Quoted S ]", "[ S I S ]")
                .rule("Quoted", "' Singles '", "\" Doubles \"")
                .rule("Singles", "", "Singles Single")
                .rule("Doubles", "", "Doubles Double");
        characters(g, "Single", "<plain-single>", "'");
        return characters(g, "Double", "<plain>", "\"");
    }

    private static Grammar signs() {
        StringBuilder plain = new StringBuilder();
        for (char c = 32; c <= 126; c++) {
            if (c != '"' && c != '\\') {
                plain.append(c);
            }
        }
        return new Grammar()
                .oneOf("blank", "\t\n\r ")
                .oneOf("digit", "0123456789")
                .oneOf("1-9", "123456789")
                .oneOf("hex", "0123456789abcdefABCDEF")
                .oneOf("hex-no-d", "0123456789abcefABCEF")
                .oneOf("d", "dD")
                .oneOf("0-7", "01234567")
                .oneOf("8-b", "89abAB")
                .oneOf("c-f", "cdefCDEF")
                .oneOf("short", "\\/bfnrt")
                .oneOf("plain", plain.toString())
                .oneOf("plain-single", plain.toString().replace('\'', '"'))
                .rule("S", "", "S <blank>")
                .rule("Positive", "<1-9>", "Positive <digit>");
    }

    private static Grammar characters(Grammar g, String name, String plain, String quote) {
        return g.rule(name, plain, "\\ <short>", "\\" + quote, "\\u <hex-no-d> <hex> <hex> <hex>",
                "\\u <d> <0-7> <hex> <hex>", "\\u <d> <8-b> <hex> <hex> \\u <d> <c-f> <hex> <hex>");
    }

    private static void lookAtJson(String text) {
        Grammar.Reading reading = JSON.new Reading("Document", text);
        int place = earlier(reading.broken, tooGreat(reading));
        place = earlier(place, begunCharacter(reading, "Character"));
        place = earlier(place, numberBefore(reading));
        place = earlier(place, tooDeep(reading, 32, "[{", "]}", "\""));
        place = earlier(place, repeatedName(reading));
        Bench.due("load " + shown(text), Bench.json(text), place < 0 ? "" + depth(text) : "at " + place);
    }

    private static void lookAtQuery(String text) {
        Grammar.Reading reading = QUERY.new Reading("Query", text);
        int place = earlier(reading.broken, tooGreat(reading));
        place = earlier(place, begunCharacter(reading, "Single"));
        place = earlier(place, begunCharacter(reading, "Double"));
        place = earlier(place, tooDeep(reading, 16, "[(", "])", "'\""));
        String due = "at " + place;
        if (place < 0) {
            due = QUERY.new Reading("SingularQuery", text).broken < 0 ? "1" : "0";
        }
        Bench.due("read " + shown(text), Bench.query(text), due);
    }

    /** Of two places, -1 being none. */
    private static int earlier(int a, int b) {
        return a < 0 ? b : b < 0 ? a : Math.min(a, b);
    }

    /** The first byte of the first NUMBER or I above 2^53 - 1 in size. */
    private static int tooGreat(Grammar.Reading reading) {
        int place = -1;
        for (int at = 0; at <= reading.reached(); at++) {
            for (int from : reading.origins("Positive", at, true)) {
                String digits = reading.text.substring(from, at);
                if (digits.length() > 16 || Long.parseLong(digits) > MOST_NUMBER) {
                    boolean minus = from > 0 && reading.text.charAt(from - 1) == '-';
                    place = earlier(place, minus ? from - 1 : from);
                }
            }
        }
        return place;
    }

    /** The first byte of the CHARACTER that was begun and can't go on. */
    private static int begunCharacter(Grammar.Reading reading, String rule) {
        int place = -1;
        if (reading.broken >= 0) {
            for (int from : reading.origins(rule, reading.broken, false)) {
                place = earlier(place, from);
            }
        }
        return place;
    }

    /** The first byte of a NUMBER with . e E behind it. */
    private static int numberBefore(Grammar.Reading reading) {
        int at = reading.broken;
        if (at < 0 || at == reading.text.length() || ".eE".indexOf(reading.text.charAt(at)) < 0) {
            return -1;
        }
        int place = -1;
        for (int from : reading.origins("Number", at, true)) {
            place = earlier(place, from);
        }
        return place;
    }

    private static int tooDeep(Grammar.Reading reading, int most, String opening, String closing, String quotes) {
        int open = 0;
        for (int at = 0; at < reading.reached(); at++) {
            char c = reading.text.charAt(at);
            if (quotes.indexOf(c) >= 0) {
                at = closingQuote(reading.text, at);
            } else if (closing.indexOf(c) >= 0) {
                open--;
            } else if (opening.indexOf(c) >= 0) {
                open++;
                if (open > most) {
                    return at;
                }
            }
        }
        return -1;
    }

    private static int closingQuote(String text, int from) {
        int at = from + 1;
        while (at < text.length() && text.charAt(at) != text.charAt(from)) {
            at += text.charAt(at) == '\\' ? 2 : 1;
        }
        return at;
    }

    /** The " of the first name that was there in its { }. */
    private static int repeatedName(Grammar.Reading reading) {
        Deque<Set<String>> names = new ArrayDeque<>();
        boolean nameIsNext = false;
        for (int at = 0; at < reading.reached(); at++) {
            char c = reading.text.charAt(at);
            if (c == '{' || c == '[') {
                names.push(new HashSet<>());
                nameIsNext = c == '{';
            } else if (c == '}' || c == ']') {
                names.pop();
            } else if (c == ',') {
                // In [ ] no name was ever kept, and in { } one is kept before the first , is there.
                nameIsNext = !names.peek().isEmpty();
            } else if (c == '"') {
                int end = closingQuote(reading.text, at);
                if (nameIsNext && end < reading.reached() && !names.peek().add(units(reading.text.substring(at + 1, end)))) {
                    return at;
                }
                nameIsNext = false;
                at = end;
            }
        }
        return -1;
    }

    private static String units(String characters) {
        StringBuilder units = new StringBuilder();
        for (int at = 0; at < characters.length(); at++) {
            char c = characters.charAt(at);
            if (c == '\\') {
                at++;
                c = characters.charAt(at);
                int letter = "bfnrt".indexOf(c);
                if (c == 'u') {
                    c = (char) Integer.parseInt(characters.substring(at + 1, at + 5), 16);
                    at += 4;
                } else if (letter >= 0) {
                    c = "\b\f\n\r\t".charAt(letter);
                }
            }
            units.append(c);
        }
        return units.toString();
    }

    private static int depth(String text) {
        int open = 0;
        int most = 0;
        for (int at = 0; at < text.length(); at++) {
            char c = text.charAt(at);
            if (c == '"') {
                at = closingQuote(text, at);
            } else if (c == '[' || c == '{') {
                open++;
                most = Math.max(most, open);
            } else if (c == ']' || c == '}') {
                open--;
            }
        }
        return most;
    }

    /** A text of the rule; the shortest ones are left out, as there are so few different ones. */
    private static String made(Grammar grammar, String rule) {
        String text = "";
        for (int tries = 0; tries < 8 && text.length() < 12; tries++) {
            text = grammar.make(RANDOM, rule, 8 + RANDOM.nextInt(14));
        }
        return text;
    }

    /** Now and then the text is put into so many [ that the limit is near. */
    private static String deeper(String json) {
        if (RANDOM.nextInt(20) > 0) {
            return json;
        }
        int times = 28 + RANDOM.nextInt(6);
        return "[".repeat(times) + json + "]".repeat(times);
    }

    private static String deeperFilter(String query) {
        if (RANDOM.nextInt(20) > 0) {
            return query;
        }
        String inside = QUERY.make(RANDOM, "Basic", RANDOM.nextInt(12));
        int times = 10 + RANDOM.nextInt(6);
        switch (RANDOM.nextInt(3)) {
            case 0:
                return query + "[?" + "(".repeat(times) + inside + ")".repeat(times) + "]";
            case 1:
                return query + "[?" + "@[?".repeat(times) + inside + "]".repeat(times) + "]";
            default:
                return query + "[?0<" + "length(".repeat(times) + "@" + ")".repeat(times) + "&&" + inside + "]";
        }
    }

    /** The text as it is, cut off, or with bytes taken away, words put in, or a piece twice. */
    private static String changed(String text, String[] words) {
        int times = RANDOM.nextInt(3);
        for (int i = 0; i < times; i++) {
            int at = RANDOM.nextInt(text.length() + 1);
            int to = Math.min(text.length(), at + RANDOM.nextInt(RANDOM.nextBoolean() ? 4 : 16));
            String word = words[RANDOM.nextInt(words.length)];
            switch (RANDOM.nextInt(6)) {
                case 0:
                    text = text.substring(0, at);
                    break;
                case 1:
                    text = text.substring(0, at) + text.substring(to);
                    break;
                case 2:
                    text = text.substring(0, to) + text.substring(at);
                    break;
                case 3:
                    text = text.substring(0, at) + word + text.substring(to);
                    break;
                default:
                    text = text.substring(0, at) + word + text.substring(at);
                    break;
            }
        }
        return text.length() > 4096 ? text.substring(0, 4096) : text;
    }

    /** Bytes that can't be seen are shown by their number. */
    private static String shown(String text) {
        StringBuilder shown = new StringBuilder();
        for (char c : text.toCharArray()) {
            shown.append(c >= 32 && c <= 126 ? "" + c : "<" + (int) c + ">");
        }
        return shown.toString();
    }
}
