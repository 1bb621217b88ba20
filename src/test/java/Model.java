import java.util.ArrayList;
import java.util.Arrays;
import java.util.List;
import java.util.Map;
import java.util.function.Function;
import java.util.function.Predicate;

/**
 * What a QUERY means, by the document's words, over plain Java values: Map, List, String, Long, Boolean, NULL.
 * Queries are not read here but put together, each part with its text, so nothing of this is as in QueryBench.
 */
final class Model {
    static final Object NULL = "null".toCharArray();
    static final Object NOTHING = "nothing".toCharArray();
    private static final int MOST_WORK = 10000;

    /** A text and what it means. */
    record Part<T>(String text, T means) { }

    /** A VALUE and the PATH to it. */
    record Node(String path, Object value) { }

    /** Puts what it chooses of the NODE into the list. */
    interface Chooser {
        void choose(Node node, List<Node> chosen);
    }

    /** There was more WORK than a call may do. */
    static final class TooMuch extends RuntimeException { }

    private final Node root;
    private int work;

    Model(Object document) {
        root = new Node("$", document);
    }

    /** THE RESULT of the query, or what is thrown. */
    String found(Part<Function<Node, List<Node>>> query) {
        work = 0;
        StringBuilder lines = new StringBuilder();
        try {
            for (Node node : query.means.apply(root)) {
                lines.append(node.path).append(' ').append(printed(node.value)).append('\n');
            }
        } catch (TooMuch e) {
            return Bench.INDEX;
        }
        return lines.length() > 16384 ? Bench.INDEX : lines.toString();
    }

    String work(Part<Function<Node, List<Node>>> query) {
        work = 0;
        try {
            query.means.apply(root);
        } catch (TooMuch e) {
            return Bench.INDEX;
        }
        return Integer.toString(work);
    }

    private void spend() {
        work++;
        if (work > MOST_WORK) {
            throw new TooMuch();
        }
    }

    private void put(Node node, List<Node> chosen) {
        spend();
        chosen.add(node);
    }

    Part<Function<Node, List<Node>>> query(boolean fromRoot, List<Part<Chooser>> segments) {
        StringBuilder text = new StringBuilder(fromRoot ? "$" : "@");
        for (Part<Chooser> segment : segments) {
            text.append(segment.text);
        }
        return new Part<>(text.toString(), current -> {
            List<Node> nodes = new ArrayList<>();
            put(fromRoot ? root : current, nodes);
            for (Part<Chooser> segment : segments) {
                List<Node> chosen = new ArrayList<>();
                for (Node node : nodes) {
                    segment.means.choose(node, chosen);
                }
                nodes = chosen;
            }
            return nodes;
        });
    }

    /** What the choosers choose, one behind the other. */
    Chooser inOrder(List<Part<Chooser>> choosers) {
        return (node, chosen) -> {
            for (Part<Chooser> chooser : choosers) {
                chooser.means.choose(node, chosen);
            }
        };
    }

    Chooser everywhere(Chooser chooser) {
        return new Chooser() {
            @Override
            public void choose(Node node, List<Node> chosen) {
                spend();
                chooser.choose(node, chosen);
                for (Node child : children(node)) {
                    choose(child, chosen);
                }
            }
        };
    }

    Chooser named(String name) {
        return (node, chosen) -> {
            if (node.value instanceof Map<?, ?> map && map.containsKey(name)) {
                put(new Node(step(node, name), map.get(name)), chosen);
            }
        };
    }

    Chooser all() {
        return (node, chosen) -> {
            for (Node child : children(node)) {
                put(child, chosen);
            }
        };
    }

    Chooser at(long index) {
        return (node, chosen) -> {
            if (node.value instanceof List<?> list) {
                long i = index >= 0 ? index : list.size() + index;
                if (i >= 0 && i < list.size()) {
                    put(children(node).get((int) i), chosen);
                }
            }
        };
    }

    /** As the RFC's chapter on slices tells it; null for what is not written. */
    Chooser slice(Long start, Long end, Long step) {
        return (node, chosen) -> {
            if (!(node.value instanceof List<?> list) || step != null && step == 0) {
                return;
            }
            long size = list.size();
            long by = step == null ? 1 : step;
            long from = start == null ? by > 0 ? 0 : size - 1 : start >= 0 ? start : size + start;
            long to = end == null ? by > 0 ? size : -1 : end >= 0 ? end : size + end;
            if (by > 0) {
                long lower = Math.min(Math.max(from, 0), size);
                long upper = Math.min(Math.max(to, 0), size);
                for (long i = lower; i < upper; i += by) {
                    put(children(node).get((int) i), chosen);
                }
            } else {
                long upper = Math.min(Math.max(from, -1), size - 1);
                long lower = Math.min(Math.max(to, -1), size - 1);
                for (long i = upper; lower < i; i += by) {
                    put(children(node).get((int) i), chosen);
                }
            }
        };
    }

    Chooser filter(Predicate<Node> asked) {
        return (node, chosen) -> {
            for (Node child : children(node)) {
                spend();
                if (asked.test(child)) {
                    put(child, chosen);
                }
            }
        };
    }

    private static List<Node> children(Node node) {
        List<Node> children = new ArrayList<>();
        if (node.value instanceof List<?> list) {
            for (Object each : list) {
                children.add(new Node(node.path + "[" + children.size() + "]", each));
            }
        } else if (node.value instanceof Map<?, ?> map) {
            for (Map.Entry<?, ?> each : map.entrySet()) {
                children.add(new Node(step(node, (String) each.getKey()), each.getValue()));
            }
        }
        return children;
    }

    private static String step(Node node, String name) {
        return node.path + "['" + escaped(name, '\'') + "']";
    }

    static Object onlyValue(List<Node> nodes) {
        return nodes.size() == 1 ? nodes.get(0).value : NOTHING;
    }

    static Object length(Object value) {
        if (value instanceof String text) {
            return (long) text.codePointCount(0, text.length());
        }
        if (value instanceof List<?> list) {
            return (long) list.size();
        }
        return value instanceof Map<?, ?> map ? (Object) (long) map.size() : NOTHING;
    }

    static boolean compare(Object a, String op, Object b) {
        switch (op) {
            case "==":
                return a.equals(b);
            case "!=":
                return !a.equals(b);
            case "<":
                return less(a, b);
            case "<=":
                return less(a, b) || a.equals(b);
            case ">":
                return less(b, a);
            default:
                return less(b, a) || a.equals(b);
        }
    }

    private static boolean less(Object a, Object b) {
        if (a instanceof Long m && b instanceof Long n) {
            return m < n;
        }
        return a instanceof String s && b instanceof String t
                && Arrays.compare(s.codePoints().toArray(), t.codePoints().toArray()) < 0;
    }

    static String printed(Object value) {
        if (value instanceof String text) {
            return '"' + escaped(text, '"') + '"';
        }
        StringBuilder all = new StringBuilder();
        if (value instanceof List<?> list) {
            for (Object each : list) {
                all.append(all.length() == 0 ? "" : ",").append(printed(each));
            }
            return "[" + all + "]";
        }
        if (value instanceof Map<?, ?> map) {
            for (Map.Entry<?, ?> each : map.entrySet()) {
                all.append(all.length() == 0 ? "" : ",").append(printed(each.getKey())).append(':').append(printed(each.getValue()));
            }
            return "{" + all + "}";
        }
        return value == NULL ? "null" : value.toString();
    }

    static String escaped(String text, char quote) {
        StringBuilder all = new StringBuilder();
        for (char c : text.toCharArray()) {
            int letter = "\b\t\n\f\r".indexOf(c);
            if (letter >= 0) {
                all.append('\\').append("btnfr".charAt(letter));
            } else if (c == quote || c == '\\') {
                all.append('\\').append(c);
            } else {
                all.append(c >= 32 && c <= 126 ? "" + c : String.format("\\u%04x", (int) c));
            }
        }
        return all.toString();
    }
}
