import java.util.ArrayList;
import java.util.Arrays;
import java.util.HashMap;
import java.util.List;
import java.util.Map;
import java.util.Objects;
import java.util.TreeMap;

/**
 * The document told once more, as definitions that call one another: nothing is kept but the tree and the rules, and
 * each answer is found by asking what it is defined by. It shares no code with the class and no order of work.
 */
final class Model {
    static final int[] LEAST = {0, 0, 0, 0, 0, 0, 0, 1, 0, 1, 0, 0, 0, 0, 0};
    static final int[] GREATEST = {2000, 2000, 2000, 100, 100, 3, 9, 6, 99, 20, 2000, 2000, 2000, 2000, 100};
    static final int[] INITIAL = {-2, -2, -2, 0, 0, 0, 0, 1, 0, 1, -1, -1, -1, -1};

    static final class Node {
        int tag, classes;
        String words = "";
        boolean container;
        Node parent;
        final List<Node> children = new ArrayList<>();
        /** What was found of it since the last change. */
        final Told[] told = new Told[14];
        Integer width, height;
        List<Node> boxes;

        int place() {
            return parent == null ? 0 : parent.children.indexOf(this);
        }
    }

    static final class Said {
        String kind;
        int number, variable;
    }

    static final class Sheet {
        final List<int[]> parts = new ArrayList<>();
        int index, origin, layer, least = -1;
        boolean important;
        final Map<Integer, Said> said = new TreeMap<>();
    }

    record Told(int value, int from) {
    }

    final TreeMap<Integer, Node> nodes = new TreeMap<>();
    final List<Sheet> sheets = new ArrayList<>();
    int next = 1;
    int window = 100;
    int reached = 0;
    /** What all nodes showed behind the last change. */
    private Map<Node, List<Integer>> shown;

    Model() {
        nodes.put(0, new Node());
        shown = snapshot();
    }

    // ---- what changes

    private Map<Node, List<Integer>> snapshot() {
        for (Node node : nodes.values()) {
            Arrays.fill(node.told, null);
            node.width = null;
            node.height = null;
            node.boxes = null;
        }
        Map<Node, List<Integer>> all = new HashMap<>();
        for (Node node : nodes.values()) {
            List<Integer> row = new ArrayList<>();
            for (int p = 0; p < 14; p++) {
                row.add(told(node, p).value());
            }
            for (int what = 0; what < 4; what++) {
                row.add(measure(node, what));
            }
            all.put(node, row);
        }
        return all;
    }

    private int change(java.util.function.IntSupplier call) {
        Map<Node, List<Integer>> before = shown;
        int answer = call.getAsInt();
        Map<Node, List<Integer>> after = snapshot();
        List<Node> both = new ArrayList<>(before.keySet());
        after.keySet().stream().filter(node -> !before.containsKey(node)).forEach(both::add);
        reached = (int) both.stream().filter(node -> !Objects.equals(before.get(node), after.get(node))).count();
        shown = after;
        return answer;
    }

    private Node node(int number) {
        if (!nodes.containsKey(number)) {
            throw new IndexOutOfBoundsException();
        }
        return nodes.get(number);
    }

    private Sheet sheet(int number) {
        if (number < 0 || number >= sheets.size()) {
            throw new IndexOutOfBoundsException();
        }
        return sheets.get(number);
    }

    private static void property(int property, int last) {
        if (property < 0 || property > last) {
            throw new IndexOutOfBoundsException();
        }
    }

    private static void argument(boolean good) {
        if (!good) {
            throw new IllegalArgumentException();
        }
    }

    private static void state(boolean good) {
        if (!good) {
            throw new IllegalStateException();
        }
    }

    private static boolean in(int number, int least, int greatest) {
        return least <= number && number <= greatest;
    }

    int add(int parent, int tag, int classes) {
        Node above = node(parent);
        argument(in(tag, 0, 5) && in(classes, 0, 255));
        state(nodes.size() < 24);
        return change(() -> {
            Node made = new Node();
            made.tag = tag;
            made.classes = classes;
            made.parent = above;
            above.children.add(made);
            nodes.put(next, made);
            return next++;
        });
    }

    int remove(int element) {
        Node top = node(element);
        state(element != 0);
        return change(() -> {
            int before = nodes.size();
            top.parent.children.remove(top);
            nodes.values().removeIf(one -> one == top || below(one, top));
            return before - nodes.size();
        });
    }

    private static boolean below(Node one, Node top) {
        return one.parent != null && (one.parent == top || below(one.parent, top));
    }

    int dress(int element, int classes) {
        Node at = node(element);
        argument(in(classes, 0, 255));
        return change(() -> {
            int before = at.classes;
            at.classes = classes;
            return before;
        });
    }

    int text(int element, int words) {
        Node at = node(element);
        String digits = new StringBuilder(words == 0 ? "" : Integer.toString(words)).reverse().toString();
        argument(words >= 0 && digits.length() <= 8 && digits.indexOf('0') < 0);
        return change(() -> {
            at.words = digits;
            return digits.length();
        });
    }

    int contain(int element, boolean is) {
        Node at = node(element);
        return change(() -> {
            int before = at.container ? 1 : 0;
            at.container = is;
            return before;
        });
    }

    int window(int width) {
        argument(in(width, 0, 2000));
        return change(() -> {
            int before = window;
            window = width;
            return before;
        });
    }

    int rule(int tag, int has, int lacks, int origin, int layer, boolean important) {
        argument(in(tag, -1, 5) && in(has, 0, 255) && in(lacks, 0, 255) && in(origin, 0, 1) && in(layer, 0, 2));
        state(sheets.size() < 16);
        return change(() -> {
            Sheet made = new Sheet();
            made.parts.add(new int[] {-1, tag, has, lacks});
            made.origin = origin;
            made.layer = layer;
            made.important = important;
            made.index = sheets.size();
            sheets.add(made);
            return made.index;
        });
    }

    int part(int rule, int way, int tag, int has, int lacks) {
        Sheet at = sheet(rule);
        argument(in(way, 0, 2) && in(tag, -1, 5) && in(has, 0, 255) && in(lacks, 0, 255));
        state(at.parts.size() < 3);
        return change(() -> {
            at.parts.add(new int[] {way, tag, has, lacks});
            return weight(rule);
        });
    }

    int ask(int rule, int least) {
        Sheet at = sheet(rule);
        argument(in(least, -1, 2000));
        return change(() -> {
            int before = at.least;
            at.least = least;
            return before;
        });
    }

    private int put(Sheet at, int property, String kind, int number, int variable) {
        TreeMap<Integer, Said> then = new TreeMap<>(at.said);
        for (int one : property == 14 ? new int[] {3, 4} : new int[] {property}) {
            Said made = new Said();
            made.kind = kind;
            made.number = number;
            made.variable = variable;
            then.put(one, made);
        }
        state(then.size() <= 6);
        return change(() -> {
            at.said.putAll(then);
            return at.said.size();
        });
    }

    int declare(int rule, int property, int value) {
        Sheet at = sheet(rule);
        property(property, 14);
        argument(in(value, LEAST[property], GREATEST[property]) || property < 3 && value == -2);
        return put(at, property, "NUMBER", value, -1);
    }

    int say(int rule, int property, int word) {
        Sheet at = sheet(rule);
        property(property, 14);
        argument(in(word, 0, 3));
        return put(at, property, new String[] {"INHERIT", "INITIAL", "UNSET", "BACK"}[word], -1, -1);
    }

    int refer(int rule, int property, int variable, int fallback) {
        Sheet at = sheet(rule);
        property(property, 14);
        argument(in(variable, 0, 3) && (fallback == -1 || in(fallback, LEAST[property], GREATEST[property])));
        return put(at, property, "VARIABLE", fallback, variable);
    }

    int empty(int rule) {
        Sheet at = sheet(rule);
        return change(() -> {
            int before = at.said.size();
            at.said.clear();
            return before;
        });
    }

    // ---- what is asked

    boolean fits(int rule, int element) {
        return fits(sheet(rule), 0, node(element));
    }

    private boolean fits(Sheet at, int k, Node node) {
        int[] part = at.parts.get(k);
        boolean like = (part[1] == -1 || part[1] == node.tag) && (~node.classes & part[2]) == 0 && (node.classes & part[3]) == 0;
        if (!like || k + 1 == at.parts.size()) {
            return like;
        }
        List<Node> others = new ArrayList<>();
        for (Node other : nodes.values()) {
            boolean stands = switch (at.parts.get(k + 1)[0]) {
                case 0 -> node.parent == other;
                case 1 -> below(node, other);
                default -> node.parent != null && other.parent == node.parent && other.place() == node.place() - 1;
            };
            if (stands) {
                others.add(other);
            }
        }
        return others.stream().anyMatch(other -> fits(at, k + 1, other));
    }

    int weight(int rule) {
        int sum = 0;
        for (int[] part : sheet(rule).parts) {
            for (int k = 0; k < 8; k++) {
                sum += (part[2] >> k & 1) == 1 ? 10 : 0;
                sum += (part[3] >> k & 1) == 1 ? 10 : 0;
            }
            sum += part[1] >= 0 ? 1 : 0;
        }
        return sum;
    }

    int value(int element, int property) {
        Node at = node(element);
        property(property, 13);
        return told(at, property).value();
    }

    int from(int element, int property) {
        Node at = node(element);
        property(property, 13);
        return told(at, property).from();
    }

    int box(int element, int what) {
        Node at = node(element);
        argument(in(what, 0, 3));
        return measure(at, what);
    }

    int lines(int element) {
        Node at = node(element);
        return hasBox(at) ? lineCount(at) : 0;
    }

    // ---- the cascade

    private boolean there(Sheet sheet, Node node) {
        if (sheet.least == -1) {
            return true;
        }
        for (Node at = node.parent; at != null; at = at.parent) {
            if (at.container) {
                return (hasBox(at) ? width(at) : 0) >= sheet.least;
            }
        }
        return false;
    }

    private static boolean sameGroup(Sheet one, Sheet other) {
        return one.important == other.important && one.origin == other.origin && one.layer == other.layer;
    }

    private boolean stronger(Sheet one, Sheet other) {
        if (one.important != other.important) {
            return one.important;
        }
        if (one.origin != other.origin) {
            return one.important ? one.origin == 0 : one.origin == 1;
        }
        if (one.layer != other.layer) {
            return one.important ? one.layer < other.layer : one.layer > other.layer;
        }
        int lead = weight(one.index) - weight(other.index);
        return lead != 0 ? lead > 0 : one.index > other.index;
    }

    /** The strongest one of those that declare the property; behind another one, of those that BACK may go to. */
    private Sheet strongest(Node node, int property, Sheet back) {
        Sheet best = null;
        for (Sheet sheet : sheets) {
            if (sheet.said.containsKey(property) && fits(sheet, 0, node) && there(sheet, node)
                && (back == null || !sameGroup(sheet, back) && stronger(back, sheet))
                && (best == null || stronger(sheet, best))) {
                best = sheet;
            }
        }
        if (best != null && best.said.get(property).kind.equals("BACK")) {
            return strongest(node, property, best);
        }
        return best;
    }

    private int need(Node node, int variable) {
        Sheet by = strongest(node, 10 + variable, null);
        return by != null && by.said.get(10 + variable).kind.equals("VARIABLE") ? by.said.get(10 + variable).variable : -1;
    }

    private boolean ring(Node node, int variable) {
        List<Integer> seen = new ArrayList<>();
        int at = need(node, variable);
        while (at >= 0 && !seen.contains(at)) {
            seen.add(at);
            at = need(node, at);
        }
        return seen.contains(variable);
    }

    private Told told(Node node, int property) {
        if (node.told[property] == null) {
            node.told[property] = find(node, property);
        }
        return node.told[property];
    }

    private Told find(Node node, int property) {
        if (property >= 10 && ring(node, property - 10)) {
            return new Told(-1, -1);
        }
        Sheet by = strongest(node, property, null);
        String kind = by == null ? "UNSET" : by.said.get(property).kind;
        if (kind.equals("NUMBER")) {
            return new Told(by.said.get(property).number, by.index);
        }
        if (kind.equals("VARIABLE")) {
            int told = told(node, 10 + by.said.get(property).variable).value();
            int fallback = by.said.get(property).number;
            if (told != -1 && in(told, LEAST[property], GREATEST[property])) {
                return new Told(told, by.index);
            }
            if (fallback != -1) {
                return new Told(fallback, by.index);
            }
            kind = "UNSET";
        }
        if (kind.equals("UNSET")) {
            kind = property >= 8 ? "INHERIT" : "INITIAL";
        }
        return kind.equals("INHERIT") && node.parent != null ? told(node.parent, property) : new Told(INITIAL[property], -1);
    }

    // ---- the layout

    private int of(Node node, int property) {
        return told(node, property).value();
    }

    private boolean hasBox(Node node) {
        return of(node, 5) != 3 && (node.parent == null || hasBox(node.parent));
    }

    private List<Node> boxes(Node node) {
        if (node.boxes == null) {
            node.boxes = node.children.stream().filter(this::hasBox).toList();
        }
        return node.boxes;
    }

    private int cap(Node node, int wide) {
        return of(node, 2) == -2 || of(node, 2) > wide ? wide : of(node, 2);
    }

    private int width(Node node) {
        if (node.width == null) {
            node.width = findWidth(node);
        }
        return node.width;
    }

    private int findWidth(Node node) {
        int own = of(node, 0);
        if (node.parent == null) {
            return cap(node, own == -2 ? window : own);
        }
        int place = boxes(node.parent).indexOf(node);
        switch (of(node.parent, 5)) {
            case 0:
                return cap(node, own == -2 ? width(node.parent) : own);
            case 1:
                return rowWidths(node.parent)[place];
            default:
                int tracks = of(node.parent, 7);
                int column = place % tracks;
                int all = width(node.parent);
                return all / tracks + (column < all - all / tracks * tracks ? 1 : 0);
        }
    }

    private int rowBase(Node child) {
        if (of(child, 0) != -2) {
            return cap(child, of(child, 0));
        }
        int longest = child.container ? 0 : child.words.chars().map(c -> c - '0').max().orElse(0);
        return cap(child, longest * of(child, 9));
    }

    private int[] rowWidths(Node row) {
        List<Node> all = boxes(row);
        List<Node> frozen = new ArrayList<>();
        while (true) {
            int[] wide = new int[all.size()];
            int rest = width(row);
            int sum = 0;
            for (int k = 0; k < wide.length; k++) {
                boolean is = frozen.contains(all.get(k));
                wide[k] = is ? of(all.get(k), 2) : rowBase(all.get(k));
                rest -= wide[k];
                sum += is ? 0 : of(all.get(k), 6);
            }
            if (rest <= 0 || sum == 0) {
                return wide;
            }
            int over = rest;
            for (int k = 0; k < wide.length; k++) {
                int share = frozen.contains(all.get(k)) ? 0 : (int) Math.floor((double) rest * of(all.get(k), 6) / sum + 1e-9);
                wide[k] += share;
                over -= share;
            }
            for (int k = 0; k < wide.length; k++) {
                if (over > 0 && !frozen.contains(all.get(k)) && of(all.get(k), 6) > 0) {
                    wide[k]++;
                    over--;
                }
            }
            int before = frozen.size();
            for (int k = 0; k < wide.length; k++) {
                if (!frozen.contains(all.get(k)) && cap(all.get(k), wide[k]) != wide[k]) {
                    frozen.add(all.get(k));
                }
            }
            if (frozen.size() == before) {
                return wide;
            }
        }
    }

    private int lineCount(Node node) {
        int size = of(node, 9);
        int lines = 0;
        int end = 0;
        for (char word : node.words.toCharArray()) {
            int wide = (word - '0') * size;
            boolean begins = lines == 0 || end + size + wide > width(node);
            lines += begins ? 1 : 0;
            end = begins ? wide : end + size + wide;
        }
        return lines;
    }

    private int textHeight(Node node) {
        return lineCount(node) * of(node, 9);
    }

    private int full(Node node) {
        return of(node, 3) + height(node) + of(node, 4);
    }

    private int height(Node node) {
        if (node.height == null) {
            node.height = of(node, 1) != -2 ? of(node, 1) : inside(node, boxes(node).size());
        }
        return node.height;
    }

    /** How high the text and the first children are, with margins, together. */
    private int inside(Node node, int count) {
        List<Node> all = boxes(node);
        if (count == 0) {
            return textHeight(node);
        }
        if (of(node, 5) == 0) {
            Node last = all.get(count - 1);
            return topInside(node, count - 1) + height(last) + of(last, 4);
        }
        int columns = of(node, 5) == 1 ? count : of(node, 7);
        int rowStart = (count - 1) / columns * columns;
        int highest = 0;
        for (int k = rowStart; k < count; k++) {
            highest = Math.max(highest, full(all.get(k)));
        }
        return inside(node, rowStart) + highest;
    }

    private int topInside(Node node, int k) {
        List<Node> all = boxes(node);
        int above = of(all.get(k), 3);
        if (of(node, 5) == 0) {
            if (k == 0) {
                return textHeight(node) + above;
            }
            Node ahead = all.get(k - 1);
            return topInside(node, k - 1) + height(ahead) + Math.max(of(ahead, 4), above);
        }
        int columns = of(node, 5) == 1 ? all.size() : of(node, 7);
        return inside(node, k / columns * columns) + above;
    }

    private int leftInside(Node node, int k) {
        if (of(node, 5) == 0) {
            return 0;
        }
        int first = of(node, 5) == 1 ? 0 : k / of(node, 7) * of(node, 7);
        int sum = 0;
        for (int j = first; j < k; j++) {
            sum += width(boxes(node).get(j));
        }
        return sum;
    }

    private int measure(Node node, int what) {
        if (!hasBox(node)) {
            return -1;
        }
        if (what == 2) {
            return width(node);
        }
        if (what == 3) {
            return height(node);
        }
        if (node.parent == null) {
            return 0;
        }
        int place = boxes(node.parent).indexOf(node);
        int inside = what == 0 ? leftInside(node.parent, place) : topInside(node.parent, place);
        return measure(node.parent, what) + inside;
    }
}
