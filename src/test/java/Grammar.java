import java.util.ArrayList;
import java.util.HashMap;
import java.util.HashSet;
import java.util.LinkedHashMap;
import java.util.List;
import java.util.Map;
import java.util.Random;
import java.util.Set;

/**
 * Rules such as the document writes them, and how far a text can go along with them (Earley's way).
 * It looks at all ways at once and knows nothing of how QueryBench reads.
 */
final class Grammar {
    private static final int ENOUGH = 1000;

    /** One way of a rule. A part is the name of a rule, or a Set of bytes one of which stands there. */
    private static final class Way {
        final String rule;
        final List<Object> parts;

        Way(String rule, List<Object> parts) {
            this.rule = rule;
            this.parts = parts;
        }
    }

    /** A way of which the parts before dot stand in the text from origin on. */
    private record Item(Way way, int dot, int origin) {
        Object next() {
            return dot < way.parts.size() ? way.parts.get(dot) : null;
        }
    }

    private final Map<String, List<Way>> rules = new LinkedHashMap<>();
    private final Map<String, Set<Character>> bytes = new HashMap<>();
    private final Map<String, Integer> heights = new HashMap<>();

    /** The token <name> stands for one of these bytes. */
    Grammar oneOf(String name, String from) {
        Set<Character> set = new HashSet<>();
        for (char c : from.toCharArray()) {
            set.add(c);
        }
        bytes.put("<" + name + ">", set);
        return this;
    }

    /** Each way: tokens with blanks between, the name of a rule, a <name>, or the bytes that stand there. */
    Grammar rule(String name, String... ways) {
        List<Way> list = new ArrayList<>();
        for (String way : ways) {
            List<Object> parts = new ArrayList<>();
            for (String token : way.isEmpty() ? new String[0] : way.split(" ")) {
                addToken(parts, token);
            }
            list.add(new Way(name, parts));
        }
        rules.put(name, list);
        return this;
    }

    private void addToken(List<Object> parts, String token) {
        if (bytes.containsKey(token)) {
            parts.add(bytes.get(token));
        } else if (Character.isUpperCase(token.charAt(0))) {
            parts.add(token);
        } else {
            for (char c : token.toCharArray()) {
                parts.add(Set.of(c));
            }
        }
    }

    /** How a text goes along with a rule. */
    final class Reading {
        final String text;
        /** The PLACE of the first byte with which it can't go on, the length if it ends too early, -1 if it is whole. */
        final int broken;
        private final List<Set<Item>> chart = new ArrayList<>();

        Reading(String rule, String text) {
            this.text = text;
            Set<Item> now = start(rule);
            int at = 0;
            for (; ; at++) {
                close(now, at);
                chart.add(now);
                now = at < text.length() ? behind(text.charAt(at)) : new HashSet<>();
                if (now.isEmpty()) {
                    break;
                }
            }
            broken = at == text.length() && origins(rule, at, true).contains(0) ? -1 : at;
        }

        private Set<Item> start(String rule) {
            Set<Item> first = new HashSet<>();
            for (Way way : rules.get(rule)) {
                first.add(new Item(way, 0, 0));
            }
            return first;
        }

        private Set<Item> behind(char c) {
            Set<Item> set = new HashSet<>();
            for (Item item : chart.get(chart.size() - 1)) {
                if (item.next() instanceof Set<?> one && one.contains(c)) {
                    set.add(new Item(item.way, item.dot + 1, item.origin));
                }
            }
            return set;
        }

        /** Adds what follows from the items without a further byte. */
        private void close(Set<Item> set, int at) {
            List<Item> list = new ArrayList<>(set);
            for (int i = 0; i < list.size(); i++) {
                for (Item more : following(list.get(i), at)) {
                    if (set.add(more)) {
                        list.add(more);
                    }
                }
            }
        }

        private List<Item> following(Item item, int at) {
            List<Item> more = new ArrayList<>();
            Object next = item.next();
            if (next == null && item.origin < at) {
                for (Item before : chart.get(item.origin)) {
                    if (item.way.rule.equals(before.next())) {
                        more.add(new Item(before.way, before.dot + 1, before.origin));
                    }
                }
            } else if (next instanceof String rule) {
                for (Way way : rules.get(rule)) {
                    more.add(new Item(way, 0, at));
                }
                if (canBeEmpty(rule, 0)) {
                    more.add(new Item(item.way, item.dot + 1, item.origin));
                }
            }
            return more;
        }

        /** Where those of the rule began that end before the byte at, or that are begun there and not at their end. */
        Set<Integer> origins(String rule, int at, boolean ended) {
            Set<Integer> found = new HashSet<>();
            for (Item item : chart.get(at)) {
                if (item.way.rule.equals(rule) && (ended ? item.next() == null : item.dot > 0 && item.next() != null)) {
                    found.add(item.origin);
                }
            }
            return found;
        }

        /** How many bytes were gone along with. */
        int reached() {
            return chart.size() - 1;
        }
    }

    private boolean canBeEmpty(String rule, int depth) {
        for (Way way : rules.get(rule)) {
            boolean empty = depth < 3;
            for (Object part : way.parts) {
                empty = empty && part instanceof String name && canBeEmpty(name, depth + 1);
            }
            if (empty) {
                return true;
            }
        }
        return false;
    }

    /** A text of the rule; the less depth is left, the plainer. */
    String make(Random random, String rule, int depth) {
        List<Way> ways = rules.get(rule);
        Way way = ways.get(random.nextInt(ways.size()));
        if (height(way) > depth) {
            for (Way other : ways) {
                way = height(other) < height(way) ? other : way;
            }
        }
        StringBuilder text = new StringBuilder();
        for (Object part : way.parts) {
            if (part instanceof String name) {
                text.append(make(random, name, depth - 1));
            } else if (part instanceof Set<?> one) {
                text.append(one.stream().sorted().skip(random.nextInt(one.size())).findFirst().get());
            }
        }
        return text.toString();
    }

    /** How many rules are within one another at least. */
    private int height(Way way) {
        while (heights.size() < rules.size()) {
            for (String rule : rules.keySet()) {
                int least = ENOUGH;
                for (Way each : rules.get(rule)) {
                    least = Math.min(least, heightOf(each));
                }
                if (least < ENOUGH) {
                    heights.put(rule, least);
                }
            }
        }
        return heightOf(way);
    }

    private int heightOf(Way way) {
        int most = 0;
        for (Object part : way.parts) {
            if (part instanceof String name) {
                most = Math.max(most, heights.getOrDefault(name, ENOUGH));
            }
        }
        return most + 1;
    }
}
