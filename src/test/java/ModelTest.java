import java.util.ArrayList;
import java.util.LinkedHashMap;
import java.util.List;
import java.util.Map;
import java.util.Random;
import java.util.function.Function;
import java.util.function.Predicate;

/** Made-up queries over made-up documents: THE RESULT, how many NODES and how much WORK are those of the Model. */
public final class ModelTest {
    private static final int DOCUMENTS = 1500;
    private static final int QUERIES_OF_EACH = 8;
    private static final String[] NAMES = {"a", "b", "c", "a_1", "", "'", "\"", "\\", "\u00e9", "\ud83d\ude00"};
    private static final String[] TEXTS = {
        "", "a", "ab", "b", "B", "x'y", "x\"y", "\\", "\b\t\n\f\r", "\u0000\u001f\u007f", "\u00e9", "\uffff", "\ud83d\ude00",
        "\ud83d\ude01", "a\ud83d\ude00", "\udbff\udfff", "\ue000", "\ud7ff", "/"};
    private static final long[] NUMBERS = {0, 1, 2, 3, 1, 2, -1, 10, 9007199254740991L, -9007199254740991L};
    private static final long[] INDICES = {0, 1, 0, 1, 2, 3, 5, -1, -2, -1, -2, -3, -6, 9007199254740991L, -9007199254740991L};
    private static final String[] OPS = {"==", "!=", "<", "<=", ">", ">="};
    private static final String[] BLANKS = {"", "", "", "", " ", "\t", "\n\r"};
    private static final Random RANDOM = new Random(2024);

    private static Model model;

    public static void main(String[] args) {
        for (int i = 0; i < DOCUMENTS; i++) {
            Object document = document();
            model = new Model(document);
            for (int n = 0; n < QUERIES_OF_EACH; n++) {
                look(Model.printed(document), query(true, 3));
            }
        }
        Bench.finish();
    }

    private static void look(String document, Model.Part<Function<Model.Node, List<Model.Node>>> query) {
        String told = query.text() + " over " + document;
        Bench b = Bench.ready(document, query.text());
        String found = model.found(query);
        boolean fits = !found.equals(Bench.INDEX);
        Bench.due("work of " + told, b.work(0), model.work(query));
        Bench.due("run " + told, b.run(0), fits ? "" + found.chars().filter(c -> c == '\n').count() : found);
        Bench.due("result of " + told, b.result(), fits ? found : "");
    }

    private static <T> T oneOf(T[] from) {
        return from[RANDOM.nextInt(from.length)];
    }

    /** One that is not so small that queries find nothing in it, and fits THE TAPE. */
    private static Object document() {
        for (int tries = 0; tries < 20; tries++) {
            Object document = value(2 + RANDOM.nextInt(4));
            int length = Model.printed(document).length();
            if (length > 40 && length <= 4096) {
                return document;
            }
        }
        return value(0);
    }

    private static Object value(int depth) {
        switch (depth > 0 ? RANDOM.nextInt(12) : RANDOM.nextInt(5)) {
            case 0:
                return Model.NULL;
            case 1:
                return RANDOM.nextBoolean();
            case 2:
                return oneOf(TEXTS);
            case 3:
            case 4:
                return NUMBERS[RANDOM.nextInt(NUMBERS.length)];
            case 5:
            case 6:
            case 7:
                return map(depth);
            default:
                return list(depth);
        }
    }

    /** The first ones more often, so that queries find them. */
    private static String name() {
        return NAMES[RANDOM.nextInt(RANDOM.nextInt(3) > 0 ? 3 : NAMES.length)];
    }

    private static List<Object> list(int depth) {
        List<Object> list = new ArrayList<>();
        for (int n = RANDOM.nextInt(7); n > 0; n--) {
            // The same VALUE in several places, for filters that look for it.
            list.add(!list.isEmpty() && RANDOM.nextInt(4) == 0 ? turned(list.get(0)) : value(depth - 1));
        }
        return list;
    }

    private static Map<String, Object> map(int depth) {
        Map<String, Object> map = new LinkedHashMap<>();
        for (int n = RANDOM.nextInt(7); n > 0; n--) {
            map.put(name(), value(depth - 1));
        }
        return map;
    }

    /** The same VALUE, but with the names of { } in the other order. */
    private static Object turned(Object value) {
        if (!(value instanceof Map<?, ?> map)) {
            return value;
        }
        List<Object> names = new ArrayList<>(map.keySet());
        Map<String, Object> turned = new LinkedHashMap<>();
        for (int i = names.size() - 1; i >= 0; i--) {
            turned.put((String) names.get(i), turned(map.get(names.get(i))));
        }
        return turned;
    }

    private static String blanks() {
        return oneOf(BLANKS);
    }

    private static Model.Part<Function<Model.Node, List<Model.Node>>> query(boolean fromRoot, int depth) {
        List<Model.Part<Model.Chooser>> segments = new ArrayList<>();
        for (int n = RANDOM.nextInt(fromRoot ? 4 : 3); n > 0; n--) {
            segments.add(segment(depth));
        }
        return model.query(fromRoot, segments);
    }

    private static Model.Part<Function<Model.Node, List<Model.Node>>> inside(int depth) {
        return query(RANDOM.nextInt(5) == 0, depth - 1);
    }

    private static Model.Part<Function<Model.Node, List<Model.Node>>> singular() {
        List<Model.Part<Model.Chooser>> segments = new ArrayList<>();
        for (int n = RANDOM.nextInt(3) * RANDOM.nextInt(2); n > 0; n--) {
            int way = RANDOM.nextInt(3);
            Model.Part<Model.Chooser> one = way == 0 ? plainName() : way == 1 ? quotedName() : index();
            String text = way == 0 ? "." + one.text() : "[" + blanks() + one.text() + blanks() + "]";
            segments.add(new Model.Part<>(blanks() + text, one.means()));
        }
        return model.query(RANDOM.nextInt(5) == 0, segments);
    }

    private static Model.Part<Model.Chooser> segment(int depth) {
        boolean descends = RANDOM.nextInt(3) == 0;
        String before = blanks() + (descends ? ".." : "");
        String dot = descends ? "" : ".";
        Model.Part<Model.Chooser> part;
        switch (RANDOM.nextInt(4)) {
            case 0:
                part = plainName();
                before += dot;
                break;
            case 1:
                part = new Model.Part<>("*", model.all());
                before += dot;
                break;
            default:
                part = selectors(depth);
                break;
        }
        return new Model.Part<>(before + part.text(), descends ? model.everywhere(part.means()) : part.means());
    }

    private static Model.Part<Model.Chooser> selectors(int depth) {
        List<Model.Part<Model.Chooser>> selectors = new ArrayList<>();
        StringBuilder text = new StringBuilder();
        for (int n = RANDOM.nextInt(6) == 0 ? 2 + RANDOM.nextInt(2) : 1; n > 0; n--) {
            Model.Part<Model.Chooser> one = selector(depth);
            selectors.add(one);
            text.append(text.length() == 0 ? "" : ",").append(blanks()).append(one.text()).append(blanks());
        }
        return new Model.Part<>("[" + text + "]", model.inOrder(selectors));
    }

    private static Model.Part<Model.Chooser> selector(int depth) {
        switch (RANDOM.nextInt(depth > 0 ? 8 : 5)) {
            case 0:
                return quotedName();
            case 1:
                return new Model.Part<>("*", model.all());
            case 2:
                return index();
            case 3:
            case 4:
                return slice();
            default:
                Model.Part<Predicate<Model.Node>> or = or(depth);
                return new Model.Part<>("?" + blanks() + or.text(), model.filter(or.means()));
        }
    }

    private static Model.Part<Model.Chooser> plainName() {
        String name = NAMES[RANDOM.nextInt(4)];
        return new Model.Part<>(name, model.named(name));
    }

    private static Model.Part<Model.Chooser> quotedName() {
        String name = name();
        return new Model.Part<>(quoted(name), model.named(name));
    }

    private static String quoted(String text) {
        char quote = RANDOM.nextBoolean() ? '\'' : '"';
        return quote + Model.escaped(text, quote) + quote;
    }

    private static Model.Part<Model.Chooser> index() {
        long index = INDICES[RANDOM.nextInt(INDICES.length)];
        return new Model.Part<>("" + index, model.at(index));
    }

    private static Model.Part<Model.Chooser> slice() {
        Long[] bounds = new Long[3];
        for (int i = 0; i < 3; i++) {
            bounds[i] = RANDOM.nextBoolean() ? null : (Long) INDICES[RANDOM.nextInt(INDICES.length)];
        }
        String text = written(bounds[0]) + ":" + written(bounds[1]);
        if (bounds[2] != null || RANDOM.nextBoolean()) {
            text += ":" + written(bounds[2]);
        }
        return new Model.Part<>(text.strip(), model.slice(bounds[0], bounds[1], bounds[2]));
    }

    private static String written(Long bound) {
        return blanks() + (bound == null ? "" : bound) + blanks();
    }

    private static Model.Part<Predicate<Model.Node>> or(int depth) {
        Model.Part<Predicate<Model.Node>> all = and(depth);
        while (RANDOM.nextInt(4) == 0) {
            Predicate<Model.Node> before = all.means();
            Model.Part<Predicate<Model.Node>> next = and(depth);
            all = new Model.Part<>(all.text() + blanks() + "||" + blanks() + next.text(), n -> before.test(n) || next.means().test(n));
        }
        return all;
    }

    private static Model.Part<Predicate<Model.Node>> and(int depth) {
        Model.Part<Predicate<Model.Node>> all = basic(depth);
        while (RANDOM.nextInt(4) == 0) {
            Predicate<Model.Node> before = all.means();
            Model.Part<Predicate<Model.Node>> next = basic(depth);
            all = new Model.Part<>(all.text() + blanks() + "&&" + blanks() + next.text(), n -> before.test(n) && next.means().test(n));
        }
        return all;
    }

    private static Model.Part<Predicate<Model.Node>> basic(int depth) {
        int way = RANDOM.nextInt(10);
        if (way > 3) {
            return comparison(depth);
        }
        Model.Part<Predicate<Model.Node>> part;
        if (way == 0 && depth > 1) {
            Model.Part<Predicate<Model.Node>> or = or(depth - 1);
            part = new Model.Part<>("(" + blanks() + or.text() + blanks() + ")", or.means());
        } else {
            Model.Part<Function<Model.Node, List<Model.Node>>> query = inside(depth);
            part = new Model.Part<>(query.text(), n -> !query.means().apply(n).isEmpty());
        }
        return RANDOM.nextInt(3) > 0 ? part : new Model.Part<>("!" + blanks() + part.text(), part.means().negate());
    }

    private static Model.Part<Predicate<Model.Node>> comparison(int depth) {
        Model.Part<Function<Model.Node, Object>> left = operand(depth);
        Model.Part<Function<Model.Node, Object>> right = operand(depth);
        String op = oneOf(OPS);
        return new Model.Part<>(left.text() + blanks() + op + blanks() + right.text(),
                n -> Model.compare(left.means().apply(n), op, right.means().apply(n)));
    }

    private static Model.Part<Function<Model.Node, Object>> operand(int depth) {
        switch (RANDOM.nextInt(10)) {
            case 0:
                return constant(NUMBERS[RANDOM.nextInt(NUMBERS.length)]);
            case 1:
                return constant(oneOf(TEXTS));
            case 2:
                return constant(oneOf(new Object[] {true, false, Model.NULL}));
            case 3:
                Model.Part<Function<Model.Node, Object>> measured = operand(depth);
                return new Model.Part<>(called("length", measured.text()), n -> Model.length(measured.means().apply(n)));
            case 4:
                Model.Part<Function<Model.Node, List<Model.Node>>> counted = inside(depth);
                return new Model.Part<>(called("count", counted.text()), n -> (long) counted.means().apply(n).size());
            case 5:
                Model.Part<Function<Model.Node, List<Model.Node>>> only = inside(depth);
                return new Model.Part<>(called("value", only.text()), n -> Model.onlyValue(only.means().apply(n)));
            default:
                Model.Part<Function<Model.Node, List<Model.Node>>> one = singular();
                return new Model.Part<>(one.text(), n -> Model.onlyValue(one.means().apply(n)));
        }
    }

    private static String called(String name, String inner) {
        return name + "(" + blanks() + inner + blanks() + ")";
    }

    private static Model.Part<Function<Model.Node, Object>> constant(Object value) {
        String text = value instanceof String s ? quoted(s) : Model.printed(value);
        return new Model.Part<>(text, n -> value);
    }
}
