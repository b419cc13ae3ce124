import java.util.ArrayList;
import java.util.HashMap;
import java.util.List;
import java.util.Map;
import java.util.NoSuchElementException;

/** The document's words taken as they stand, with lists and all ways of parting tried out. */
final class Reference {
    private record Pattern(int kind, int a, int b, int depth) {
    }

    private record Attribute(int name, int value) {
    }

    /** An element, or a text if element is null. */
    private record Child(Element element, int text) {
    }

    private static final class Element {
        private final int number;
        private final int name;
        private final List<Attribute> attributes = new ArrayList<>();
        private final List<Child> children = new ArrayList<>();

        Element(int number, int name) {
            this.number = number;
            this.name = name;
        }
    }

    /** Some of the attributes with some of the children of one place, told by their indexes in it. */
    private record Part(List<Attribute> attributes, List<Child> children, int set, int row) {
        static Part whole(List<Attribute> attributes, List<Child> children) {
            return new Part(attributes, children, (1 << attributes.size()) - 1, (1 << children.size()) - 1);
        }

        Part of(int otherSet, int otherRow) {
            return new Part(attributes, children, otherSet, otherRow);
        }

        List<Attribute> attributesIn() {
            List<Attribute> in = new ArrayList<>();
            for (int i = 0; i < attributes.size(); i++) {
                if ((set & 1 << i) != 0) {
                    in.add(attributes.get(i));
                }
            }
            return in;
        }

        List<Child> childrenIn() {
            List<Child> in = new ArrayList<>();
            for (int i = 0; i < children.size(); i++) {
                if ((row & 1 << i) != 0) {
                    in.add(children.get(i));
                }
            }
            return in;
        }
    }

    private final List<Pattern> patterns = new ArrayList<>();
    private final Integer[] given = new Integer[4];
    private final List<Element> nodes = new ArrayList<>();
    private final List<Element> open = new ArrayList<>();

    int pattern(int kind, int a, int b) {
        boolean first = kind >= 4 && kind <= 7;
        boolean second = kind >= 4 && kind <= 9 && kind != 7;
        boolean named = kind == 8 || kind == 9;
        if (kind < 0 || kind > 10 || first && isNoPattern(a) || second && isNoPattern(b)
                || named && (a < 0 || a > 6) || kind == 10 && (a < 0 || a > 3)) {
            throw new IllegalArgumentException();
        }
        int depth = 1;
        if (first) {
            depth = Math.max(depth, 1 + patterns.get(a).depth);
        }
        if (second) {
            depth = Math.max(depth, 1 + patterns.get(b).depth);
        }
        if (patterns.size() == 40 || depth > 5) {
            throw new IllegalStateException();
        }
        patterns.add(new Pattern(kind, a, b, depth));
        return patterns.size() - 1;
    }

    int define(int definition, int pattern) {
        if (definition < 0 || definition > 3) {
            throw new IllegalArgumentException();
        }
        if (isNoPattern(pattern)) {
            throw new NoSuchElementException();
        }
        if (comesTo(pattern, definition)) {
            throw new UnsupportedOperationException();
        }
        int answer = given[definition] == null ? 1 : 0;
        given[definition] = pattern;
        return answer;
    }

    int open(int name) {
        if (name < 0 || name > 5) {
            throw new IllegalArgumentException();
        }
        if (open.isEmpty() ? !nodes.isEmpty() : nodes.size() == 16 || open.size() == 4 || last().children.size() == 6) {
            throw new IllegalStateException();
        }
        Element made = new Element(nodes.size(), name);
        if (!open.isEmpty()) {
            last().children.add(new Child(made, 0));
        }
        nodes.add(made);
        open.add(made);
        return made.number;
    }

    int attribute(int name, int value) {
        if (name < 0 || name > 5) {
            throw new IllegalArgumentException();
        }
        if (open.isEmpty() || !last().children.isEmpty() || last().attributes.size() == 3
                || last().attributes.stream().anyMatch(one -> one.name == name)) {
            throw new IllegalStateException();
        }
        last().attributes.add(new Attribute(name, value));
        return last().attributes.size();
    }

    int text(int value) {
        if (open.isEmpty() || last().children.size() == 6) {
            throw new IllegalStateException();
        }
        last().children.add(new Child(null, value));
        return last().children.size();
    }

    int close() {
        if (open.isEmpty()) {
            throw new IllegalStateException();
        }
        return open.remove(open.size() - 1).number;
    }

    int clear() {
        int had = nodes.size();
        nodes.clear();
        open.clear();
        return had;
    }

    int matches(int pattern, int node) {
        refuseMissing(pattern, node);
        return isNode(pattern, nodes.get(node)) ? 1 : 0;
    }

    int content(int pattern, int node) {
        refuseMissing(pattern, node);
        Element asked = nodes.get(node);
        return asks(pattern, asked.attributes, asked.children) ? 1 : 0;
    }

    int longest(int pattern, int node) {
        refuseMissing(pattern, node);
        Element asked = nodes.get(node);
        for (int left = asked.children.size(); left >= 0; left--) {
            if (asks(pattern, asked.attributes, asked.children.subList(0, left))) {
                return left;
            }
        }
        throw new UnsupportedOperationException();
    }

    int find(int pattern) {
        if (isNoPattern(pattern)) {
            throw new NoSuchElementException();
        }
        for (Element node : nodes) {
            if (isNode(pattern, node)) {
                return node.number;
            }
        }
        throw new UnsupportedOperationException();
    }

    int nullable(int pattern) {
        if (isNoPattern(pattern)) {
            throw new NoSuchElementException();
        }
        return asks(pattern, List.of(), List.of()) ? 1 : 0;
    }

    int count(int what) {
        switch (what) {
            case 0:
                return patterns.size();
            case 1:
                int all = 0;
                for (Integer one : given) {
                    all += one == null ? 0 : 1;
                }
                return all;
            case 2:
                return nodes.size();
            case 3:
                return open.size();
            case 4:
                return open.isEmpty() ? -1 : last().name;
            case 5:
                return open.isEmpty() ? -1 : last().number;
            default:
                throw new IllegalArgumentException();
        }
    }

    private Element last() {
        return open.get(open.size() - 1);
    }

    private boolean isNoPattern(int pattern) {
        return pattern < 0 || pattern >= patterns.size();
    }

    private void refuseMissing(int pattern, int node) {
        if (isNoPattern(pattern) || node < 0 || node >= nodes.size()) {
            throw new NoSuchElementException();
        }
    }

    private boolean comesTo(int pattern, int definition) {
        Pattern asked = patterns.get(pattern);
        switch (asked.kind) {
            case 4, 5, 6:
                return comesTo(asked.a, definition) || comesTo(asked.b, definition);
            case 7:
                return comesTo(asked.a, definition);
            case 9:
                return comesTo(asked.b, definition);
            case 10:
                return asked.a == definition || given[asked.a] != null && comesTo(given[asked.a], definition);
            default:
                return false;
        }
    }

    private boolean isNode(int pattern, Element node) {
        return asks(pattern, List.of(), List.of(new Child(node, 0)));
    }

    private boolean asks(int pattern, List<Attribute> attributes, List<Child> children) {
        return asks(pattern, Part.whole(attributes, children), new HashMap<>());
    }

    /** What was found of a part is kept, for trying out all ways again and again would not end. */
    private boolean asks(int pattern, Part part, Map<Integer, Boolean> known) {
        int key = (pattern * 8 + part.set) * 64 + part.row;
        Boolean kept = known.get(key);
        if (kept == null) {
            kept = tries(patterns.get(pattern), pattern, part, known);
            known.put(key, kept);
        }
        return kept;
    }

    private boolean tries(Pattern asked, int pattern, Part part, Map<Integer, Boolean> known) {
        List<Attribute> attributes = part.attributesIn();
        List<Child> children = part.childrenIn();
        switch (asked.kind) {
            case 0:
                return attributes.isEmpty() && children.isEmpty();
            case 2:
                return attributes.isEmpty() && children.stream().allMatch(one -> one.element == null);
            case 3:
                return attributes.isEmpty() && children.size() == 1 && children.get(0).element == null
                        && asked.a <= children.get(0).text && children.get(0).text <= asked.b;
            case 4:
                return parts(asked.a, asked.b, true, false, part, known);
            case 5:
                return parts(asked.a, asked.b, false, false, part, known);
            case 6:
                return asks(asked.a, part, known) || asks(asked.b, part, known);
            case 7:
                return asks(asked.a, part, known) || parts(asked.a, pattern, true, true, part, known);
            case 8:
                return attributes.isEmpty() && children.size() == 1 && isElement(asked, children.get(0).element);
            case 9:
                return children.isEmpty() && attributes.size() == 1 && isAttribute(asked, attributes.get(0));
            case 10:
                return given[asked.a] != null && asks(given[asked.a], part, known);
            default:
                return false;
        }
    }

    private boolean isElement(Pattern asked, Element element) {
        return element != null && (asked.a == 6 || asked.a == element.name)
                && asks(asked.b, element.attributes, element.children);
    }

    private boolean isAttribute(Pattern asked, Attribute attribute) {
        return (asked.a == 6 || asked.a == attribute.name)
                && asks(asked.b, List.of(), List.of(new Child(null, attribute.value)));
    }

    /** Tries all ways to part in two; if both must have something, a repetition comes to its end. */
    private boolean parts(int first, int second, boolean cut, boolean bothHave, Part part,
            Map<Integer, Boolean> known) {
        for (int set = 0; set <= part.set; set++) {
            for (int row = 0; row <= part.row; row++) {
                int otherSet = part.set & ~set;
                int otherRow = part.row & ~row;
                boolean parted = (set & part.set) == set && (row & part.row) == row
                        && (!cut || isCut(row, otherRow))
                        && (!bothHave || (set | row) != 0 && (otherSet | otherRow) != 0);
                if (parted && asks(first, part.of(set, row), known)
                        && asks(second, part.of(otherSet, otherRow), known)) {
                    return true;
                }
            }
        }
        return false;
    }

    private static boolean isCut(int row, int otherRow) {
        for (int i = 0; i < 6; i++) {
            for (int k = i + 1; k < 6; k++) {
                if ((otherRow & 1 << i) != 0 && (row & 1 << k) != 0) {
                    return false;
                }
            }
        }
        return true;
    }
}
