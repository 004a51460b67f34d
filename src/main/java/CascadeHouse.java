import java.util.ArrayList;

/**
 * A style cascade and the layout by it. Every call that changes something finds all values and boxes anew into
 * the spare looks of the elements, counts the elements whose look is another one, and keeps the new looks.
 */
public final class CascadeHouse {
    public static final int NONE = -1;
    public static final int AUTO = -2;
    public static final int WIDTH = 0, HEIGHT = 1, MOST = 2, ABOVE = 3, BEHIND = 4, DISPLAY = 5, GROW = 6, TRACKS = 7, COLOUR = 8, SIZE = 9, VARIABLES = 10, MARGIN = 14;
    public static final int BLOCK = 0, ROW = 1, GRID = 2, NOTHING = 3;
    public static final int CHILD = 0, BELOW = 1, NEXT = 2;
    public static final int READER = 0, AUTHOR = 1;
    public static final int INHERIT = 0, INITIAL = 1, UNSET = 2, BACK = 3;

    private static final int MOST_ELEMENTS = 24;
    private static final int MOST_RULES = 16;
    private static final int MOST_PARTS = 3;
    private static final int MOST_DECLARATIONS = 6;
    private static final int MOST_WORDS = 8;
    private static final int LONGEST_TEXT = 99999999;
    private static final int LAST_TAG = 5;
    private static final int ALL_CLASSES = 255;
    private static final int LAST_LAYER = 2;
    private static final int WIDEST = 2000;
    private static final int FIRST_WINDOW = 100;
    private static final int VARIABLE_COUNT = 4;
    private static final int PROPERTY_COUNT = 14;
    private static final int LAST_MEASURE = 3;

    private final Tree tree;
    private final RuleBook book;
    private final Cascade cascade;
    private int windowWidth;
    private int lastReached;

    public CascadeHouse() {
        tree = new Tree();
        book = new RuleBook();
        cascade = new Cascade(book);
        windowWidth = FIRST_WINDOW;
        settle(0);
        lastReached = 0;
    }

    // ---- elements

    public int add(int parent, int tag, int classes) throws IndexOutOfBoundsException, IllegalArgumentException, IllegalStateException {
        Element above = elementOf(parent);
        checkRange(tag, 0, LAST_TAG);
        checkRange(classes, 0, ALL_CLASSES);
        if (tree.size() >= MOST_ELEMENTS) {
            throw new IllegalStateException("24 elements are there");
        }
        Element made = tree.append(above, tag, classes);
        settle(0);
        return made.number;
    }

    public int remove(int element) throws IndexOutOfBoundsException, IllegalStateException {
        Element top = elementOf(element);
        if (top.parent == null) {
            throw new IllegalStateException("the root stays");
        }
        int went = tree.cut(top);
        settle(went);
        return went;
    }

    public int dress(int element, int classes) throws IndexOutOfBoundsException, IllegalArgumentException {
        Element at = elementOf(element);
        checkRange(classes, 0, ALL_CLASSES);
        int before = at.classes;
        at.classes = classes;
        settle(0);
        return before;
    }

    public int text(int element, int words) throws IndexOutOfBoundsException, IllegalArgumentException {
        Element at = elementOf(element);
        checkRange(words, 0, LONGEST_TEXT);
        int count = Text.countWords(words);
        if (count == NONE) {
            throw new IllegalArgumentException("a word has 1 to 9 letters");
        }
        at.words = words;
        settle(0);
        return count;
    }

    public boolean contain(int element, boolean is) throws IndexOutOfBoundsException {
        Element at = elementOf(element);
        boolean before = at.isContainer;
        at.isContainer = is;
        settle(0);
        return before;
    }

    public int window(int width) throws IllegalArgumentException {
        checkRange(width, 0, WIDEST);
        int before = windowWidth;
        windowWidth = width;
        settle(0);
        return before;
    }

    // ---- rules

    public int rule(int tag, int has, int lacks, int origin, int layer, boolean isImportant) throws IllegalArgumentException, IllegalStateException {
        checkPart(tag, has, lacks);
        checkRange(origin, READER, AUTHOR);
        checkRange(layer, 0, LAST_LAYER);
        if (book.size() >= MOST_RULES) {
            throw new IllegalStateException("16 rules are there");
        }
        Rule made = new Rule(book.size(), origin, layer, isImportant);
        made.append(new Part(CHILD, tag, has, lacks));
        book.append(made);
        settle(0);
        return made.number;
    }

    public int part(int rule, int way, int tag, int has, int lacks) throws IndexOutOfBoundsException, IllegalArgumentException, IllegalStateException {
        Rule at = ruleOf(rule);
        checkRange(way, CHILD, NEXT);
        checkPart(tag, has, lacks);
        if (at.partCount() >= MOST_PARTS) {
            throw new IllegalStateException("the rule has 3 parts");
        }
        at.append(new Part(way, tag, has, lacks));
        book.rank(at);
        settle(0);
        return at.weightInAll;
    }

    public int ask(int rule, int least) throws IndexOutOfBoundsException, IllegalArgumentException {
        Rule at = ruleOf(rule);
        checkRange(least, NONE, WIDEST);
        int before = at.least;
        at.least = least;
        settle(0);
        return before;
    }

    public int declare(int rule, int property, int value) throws IndexOutOfBoundsException, IllegalArgumentException, IllegalStateException {
        Rule at = ruleOf(rule);
        checkProperty(property, MARGIN);
        if (!Property.canBe(property, value) && !(value == AUTO && Property.canBeAuto(property))) {
            throw new IllegalArgumentException("the property cannot be that");
        }
        putInto(at, property, new Declaration(Declaration.NUMBER, value, NONE));
        settle(0);
        return at.declarationCount;
    }

    public int say(int rule, int property, int word) throws IndexOutOfBoundsException, IllegalArgumentException, IllegalStateException {
        Rule at = ruleOf(rule);
        checkProperty(property, MARGIN);
        checkRange(word, INHERIT, BACK);
        putInto(at, property, new Declaration(word, NONE, NONE));
        settle(0);
        return at.declarationCount;
    }

    public int refer(int rule, int property, int variable, int fallback) throws IndexOutOfBoundsException, IllegalArgumentException, IllegalStateException {
        Rule at = ruleOf(rule);
        checkProperty(property, MARGIN);
        checkRange(variable, 0, VARIABLE_COUNT - 1);
        if (fallback != NONE && !Property.canBe(property, fallback)) {
            throw new IllegalArgumentException("the property cannot be the fallback");
        }
        putInto(at, property, new Declaration(Declaration.VARIABLE, fallback, variable));
        settle(0);
        return at.declarationCount;
    }

    public int empty(int rule) throws IndexOutOfBoundsException {
        Rule at = ruleOf(rule);
        int before = at.declarationCount;
        at.clearDeclarations();
        settle(0);
        return before;
    }

    public boolean fits(int rule, int element) throws IndexOutOfBoundsException {
        Rule at = ruleOf(rule);
        return at.selects(elementOf(element));
    }

    public int weight(int rule) throws IndexOutOfBoundsException {
        return ruleOf(rule).weightInAll;
    }

    // ---- values and boxes

    public int value(int element, int property) throws IndexOutOfBoundsException {
        Element at = elementOf(element);
        checkProperty(property, PROPERTY_COUNT - 1);
        return at.kept.valueOf(property);
    }

    public int valueAnew(int element, int property) throws IndexOutOfBoundsException {
        Element at = elementOf(element);
        checkProperty(property, PROPERTY_COUNT - 1);
        findAnew();
        return at.fresh.valueOf(property);
    }

    public int from(int element, int property) throws IndexOutOfBoundsException {
        Element at = elementOf(element);
        checkProperty(property, PROPERTY_COUNT - 1);
        return at.kept.sourceOf(property);
    }

    public int box(int element, int what) throws IndexOutOfBoundsException, IllegalArgumentException {
        Element at = elementOf(element);
        checkRange(what, 0, LAST_MEASURE);
        return at.kept.measure(what);
    }

    public int boxAnew(int element, int what) throws IndexOutOfBoundsException, IllegalArgumentException {
        Element at = elementOf(element);
        checkRange(what, 0, LAST_MEASURE);
        findAnew();
        return at.fresh.measure(what);
    }

    public int lines(int element) throws IndexOutOfBoundsException {
        return elementOf(element).kept.lineCount;
    }

    public int elements() {
        return tree.size();
    }

    public int reached() {
        return lastReached;
    }

    // ---- what the calls share

    private Element elementOf(int number) {
        Element found = tree.find(number);
        if (found == null) {
            throw new IndexOutOfBoundsException("there is no such element");
        }
        return found;
    }

    private Rule ruleOf(int number) {
        Rule found = book.find(number);
        if (found == null) {
            throw new IndexOutOfBoundsException("there is no such rule");
        }
        return found;
    }

    private static void checkProperty(int property, int last) {
        if (property < 0 || property > last) {
            throw new IndexOutOfBoundsException("there is no such property");
        }
    }

    private static void checkRange(int number, int least, int greatest) {
        if (number < least || number > greatest) {
            throw new IllegalArgumentException("an argument is out of its range");
        }
    }

    private static void checkPart(int tag, int has, int lacks) {
        checkRange(tag, NONE, LAST_TAG);
        checkRange(has, 0, ALL_CLASSES);
        checkRange(lacks, 0, ALL_CLASSES);
    }

    private static void putInto(Rule rule, int property, Declaration declaration) {
        if (rule.countWith(property) > MOST_DECLARATIONS) {
            throw new IllegalStateException("a rule has at most 6 declarations");
        }
        rule.put(property, declaration);
    }

    private void settle(int went) {
        findAnew();
        int count = went;
        for (int k = 0; k < tree.size(); k++) {
            if (tree.get(k).takeFresh()) {
                count++;
            }
        }
        lastReached = count;
    }

    /**
     * Parents stand ahead of their children in the tree's row, so one walk forth finds values and widths (a rule
     * may ask for the width of a container above), one walk back heights, and another one forth places.
     */
    private void findAnew() {
        int size = tree.size();
        for (int k = 0; k < size; k++) {
            Element at = tree.get(k);
            if (at.parent == null) {
                cascade.findValues(at);
                Layout.measureRoot(at.fresh, windowWidth);
            }
            for (Element child = at.first; child != null; child = child.next) {
                cascade.findValues(child);
            }
            Layout.measureChildren(at);
        }
        for (int k = size - 1; k >= 0; k--) {
            Layout.findHeight(tree.get(k));
        }
        for (int k = 0; k < size; k++) {
            Layout.placeChildren(tree.get(k));
        }
    }

    // ---- properties

    /** What each property can be, is at first, and whether it is inherited. */
    private static final class Property {
        private static final int[] LEAST = {0, 0, 0, 0, 0, BLOCK, 0, 1, 0, 1, 0, 0, 0, 0};
        private static final int[] GREATEST = {2000, 2000, 2000, 100, 100, NOTHING, 9, 6, 99, 20, 2000, 2000, 2000, 2000};
        private static final int[] AT_FIRST = {AUTO, AUTO, AUTO, 0, 0, BLOCK, 0, 1, 0, 1, NONE, NONE, NONE, NONE};

        static boolean canBe(int property, int number) {
            int one = property == MARGIN ? ABOVE : property;
            if (one < 0 || one >= PROPERTY_COUNT) {
                return false;
            }
            return number >= LEAST[one] && number <= GREATEST[one];
        }

        static boolean canBeAuto(int property) {
            return property == WIDTH || property == HEIGHT || property == MOST;
        }

        static int atFirst(int property) {
            return property >= 0 && property < PROPERTY_COUNT ? AT_FIRST[property] : NONE;
        }

        static boolean isInherited(int property) {
            return property >= COLOUR;
        }
    }

    // ---- the tree

    /** One element with the look that is kept and the spare one into which it is found anew. */
    private static final class Element {
        int number;
        int tag;
        int classes;
        int words;
        boolean isContainer;
        Element parent;
        Element ahead;
        Element next;
        Element first;
        Element last;
        Look kept = new Look();
        Look fresh = new Look();

        void begin(int number, int tag, int classes) {
            this.number = number;
            this.tag = tag;
            this.classes = classes;
            words = 0;
            isContainer = false;
            parent = null;
            ahead = null;
            next = null;
            first = null;
            last = null;
            kept.isKnown = false;
        }

        /** Keeps the fresh look; tells whether it is another one than that before. */
        boolean takeFresh() {
            Look before = kept;
            kept = fresh;
            fresh = before;
            kept.isKnown = true;
            return !before.isKnown || !before.isSame(kept);
        }

        boolean isWithin(Element top) {
            for (Element at = this; at != null; at = at.parent) {
                if (at == top) {
                    return true;
                }
            }
            return false;
        }

        /** The width of the nearest container above; NONE, which is less than any that is asked for, without one. */
        int widthAround() {
            for (Element at = parent; at != null; at = at.parent) {
                if (at.isContainer) {
                    return at.fresh.width;
                }
            }
            return NONE;
        }
    }

    /**
     * The elements by their numbers. An element comes later than its parent and behind its siblings, so parents
     * stand ahead of their children in the row, and children in their order.
     */
    private static final class Tree {
        private final ArrayList<Element> row = new ArrayList<>();
        /** Those that went are used again, so that adding and removing makes no more than 24 of them. */
        private final ArrayList<Element> idle = new ArrayList<>();
        private int nextNumber;

        Tree() {
            Element root = new Element();
            root.begin(0, 0, 0);
            row.add(root);
            nextNumber = 1;
        }

        int size() {
            return row.size();
        }

        Element get(int place) {
            return row.get(place);
        }

        Element find(int number) {
            for (int k = 0; k < row.size(); k++) {
                Element at = row.get(k);
                if (at.number == number) {
                    return at;
                }
            }
            return null;
        }

        Element append(Element parent, int tag, int classes) {
            Element made = idle.isEmpty() ? new Element() : idle.remove(idle.size() - 1);
            made.begin(nextNumber, tag, classes);
            nextNumber++;
            made.parent = parent;
            made.ahead = parent.last;
            if (made.ahead == null) {
                parent.first = made;
            } else {
                made.ahead.next = made;
            }
            parent.last = made;
            row.add(made);
            return made;
        }

        /** Takes away an element with all below it; tells how many those are. */
        int cut(Element top) {
            unlink(top);
            int went = 0;
            for (int k = row.size() - 1; k >= 0; k--) {
                Element at = row.get(k);
                if (at.isWithin(top)) {
                    row.remove(k);
                    idle.add(at);
                    went++;
                }
            }
            return went;
        }

        private static void unlink(Element top) {
            if (top.ahead != null) {
                top.ahead.next = top.next;
            } else if (top.parent != null) {
                top.parent.first = top.next;
            }
            if (top.next != null) {
                top.next.ahead = top.ahead;
            } else if (top.parent != null) {
                top.parent.last = top.ahead;
            }
        }
    }

    /** The values of an element, the rules that they are by, and its box. */
    private static final class Look {
        private final int[] values = new int[PROPERTY_COUNT];
        private final int[] sources = new int[PROPERTY_COUNT];
        boolean isKnown;
        boolean hasBox;
        int left;
        int top;
        int width;
        int height;
        int lineCount;
        int gain;
        boolean isFrozen;

        int valueOf(int property) {
            return property >= 0 && property < values.length ? values[property] : NONE;
        }

        int sourceOf(int property) {
            return property >= 0 && property < sources.length ? sources[property] : NONE;
        }

        void put(int property, int value, int source) {
            if (property >= 0 && property < values.length && property < sources.length) {
                values[property] = value;
                sources[property] = source;
            }
        }

        void beginBox(boolean is) {
            hasBox = is;
            left = 0;
            top = 0;
            width = 0;
            height = 0;
            lineCount = 0;
            gain = 0;
            isFrozen = false;
        }

        int atMost(int wide) {
            int most = MOST < values.length ? values[MOST] : AUTO;
            return most == AUTO || most > wide ? wide : most;
        }

        int heightWithMargins() {
            return valueOf(ABOVE) + height + valueOf(BEHIND);
        }

        int measure(int what) {
            if (!hasBox) {
                return NONE;
            }
            switch (what) {
                case 0: return left;
                case 1: return top;
                case 2: return width;
                default: return height;
            }
        }

        boolean isSame(Look other) {
            for (int property = 0; property < PROPERTY_COUNT; property++) {
                if (valueOf(property) != other.valueOf(property)) {
                    return false;
                }
            }
            return hasBox == other.hasBox && left == other.left && top == other.top && width == other.width && height == other.height;
        }
    }

    // ---- the rules

    /** One part of a selector. The way is from the part ahead; for the first one it means nothing. */
    private static final class Part {
        final int way;
        final int tag;
        final int has;
        final int lacks;

        Part(int way, int tag, int has, int lacks) {
            this.way = way;
            this.tag = tag;
            this.has = has;
            this.lacks = lacks;
        }

        boolean isLike(Element element) {
            return (tag == NONE || tag == element.tag) && (element.classes & has) == has && (element.classes & lacks) == 0;
        }

        int weightAlone() {
            return 10 * (Integer.bitCount(has) + Integer.bitCount(lacks)) + (tag == NONE ? 0 : 1);
        }
    }

    /** What is declared of one property: a word, INHERIT to BACK, or one of the kinds here. */
    private static final class Declaration {
        static final int NUMBER = 4;
        static final int VARIABLE = 5;

        final int kind;
        final int number;
        final int variable;

        Declaration(int kind, int number, int variable) {
            this.kind = kind;
            this.number = number;
            this.variable = variable;
        }

        /** The number that a VARIABLE makes of the property, or NONE where it is as UNSET. */
        int numberByVariable(int property, Look look) {
            int told = look.valueOf(VARIABLES + variable);
            return told != NONE && Property.canBe(property, told) ? told : number;
        }
    }

    private static final class Rule {
        final int number;
        final int group;
        private final ArrayList<Part> parts = new ArrayList<>();
        private final Declaration[] declarations = new Declaration[PROPERTY_COUNT];
        int declarationCount;
        int weightInAll;
        int least = NONE;

        Rule(int number, int origin, int layer, boolean isImportant) {
            this.number = number;
            this.group = groupOf(origin, layer, isImportant);
        }

        /** Origin, layer and importance in one number, the greater the stronger; importance turns the others round. */
        private static int groupOf(int origin, int layer, boolean isImportant) {
            int layers = LAST_LAYER + 1;
            int plain = (origin == AUTHOR ? layers : 0) + layer;
            return isImportant ? 4 * layers - 1 - plain : plain;
        }

        boolean isStrongerThan(Rule other) {
            if (group != other.group) {
                return group > other.group;
            }
            if (weightInAll != other.weightInAll) {
                return weightInAll > other.weightInAll;
            }
            return number > other.number;
        }

        int partCount() {
            return parts.size();
        }

        void append(Part part) {
            parts.add(part);
            weightInAll += part.weightAlone();
        }

        boolean selects(Element element) {
            return !parts.isEmpty() && parts.get(0).isLike(element) && restSelects(parts, 1, element);
        }

        /** Whether the parts from the one at the place on can be fitted, the part ahead being fitted by the element. */
        private static boolean restSelects(ArrayList<Part> parts, int place, Element element) {
            if (place < 0 || place >= parts.size() || place >= MOST_PARTS) {
                return true;
            }
            Part part = parts.get(place);
            if (part.way == BELOW) {
                for (Element at = element.parent; at != null; at = at.parent) {
                    if (part.isLike(at) && restSelects(parts, place + 1, at)) {
                        return true;
                    }
                }
                return false;
            }
            Element at = part.way == CHILD ? element.parent : element.ahead;
            return at != null && part.isLike(at) && restSelects(parts, place + 1, at);
        }

        Declaration declarationOf(int property) {
            return property >= 0 && property < declarations.length ? declarations[property] : null;
        }

        int countWith(int property) {
            if (property == MARGIN) {
                return declarationCount + newOnes(ABOVE) + newOnes(BEHIND);
            }
            return declarationCount + newOnes(property);
        }

        private int newOnes(int property) {
            return declarationOf(property) == null ? 1 : 0;
        }

        void put(int property, Declaration declaration) {
            if (property == MARGIN) {
                putOne(ABOVE, declaration);
                putOne(BEHIND, declaration);
            } else {
                putOne(property, declaration);
            }
        }

        private void putOne(int property, Declaration declaration) {
            if (property >= 0 && property < declarations.length) {
                declarationCount += newOnes(property);
                declarations[property] = declaration;
            }
        }

        void clearDeclarations() {
            for (int k = 0; k < declarations.length; k++) {
                declarations[k] = null;
            }
            declarationCount = 0;
        }
    }

    /** The rules by their numbers, and the strongest one first. */
    private static final class RuleBook {
        private final ArrayList<Rule> rules = new ArrayList<>();
        private final ArrayList<Rule> byStrength = new ArrayList<>();

        int size() {
            return rules.size();
        }

        Rule find(int number) {
            return number >= 0 && number < rules.size() ? rules.get(number) : null;
        }

        void append(Rule rule) {
            rules.add(rule);
            rank(rule);
        }

        /** Puts a new rule, or one of another weight, where it belongs by its strength. */
        void rank(Rule rule) {
            for (int k = byStrength.size() - 1; k >= 0; k--) {
                if (byStrength.get(k) == rule) {
                    byStrength.remove(k);
                }
            }
            int place = 0;
            while (place < byStrength.size() && byStrength.get(place).isStrongerThan(rule)) {
                place++;
            }
            byStrength.add(place, rule);
        }

        /** Lists the rules that fit an element and are there for it, the strongest one first. */
        void listFor(Element element, ArrayList<Rule> list) {
            int around = element.widthAround();
            list.clear();
            for (int k = 0; k < byStrength.size(); k++) {
                Rule rule = byStrength.get(k);
                boolean isThere = rule.least == NONE || around >= rule.least;
                if (isThere && rule.selects(element)) {
                    list.add(rule);
                }
            }
        }
    }

    // ---- the cascade

    /** Finds the values of one element after another; its rows are used again for each of them. */
    private static final class Cascade {
        private final RuleBook book;
        private final ArrayList<Rule> listed = new ArrayList<>();
        private final Rule[] deciding = new Rule[PROPERTY_COUNT];
        /** For each property the group whose other rules BACK passes over, or NONE. */
        private final int[] passed = new int[PROPERTY_COUNT];
        /** The variable of the same element that each variable needs, or NONE. */
        private final int[] needed = new int[VARIABLE_COUNT];

        Cascade(RuleBook book) {
            this.book = book;
        }

        /** The parent's values, and the widths of all containers above, are found already. */
        void findValues(Element element) {
            book.listFor(element, listed);
            findDeciding();
            findVariables(element);
            for (int property = 0; property < VARIABLES; property++) {
                findOne(element, property);
            }
        }

        /** Each round makes right those that need one that is right, so as many rounds as variables are enough. */
        private void findVariables(Element element) {
            findNeeds();
            for (int round = 0; round < VARIABLE_COUNT; round++) {
                for (int variable = 0; variable < VARIABLE_COUNT; variable++) {
                    if (isInRing(variable)) {
                        element.fresh.put(VARIABLES + variable, NONE, NONE);
                    } else {
                        findOne(element, VARIABLES + variable);
                    }
                }
            }
        }

        private void findNeeds() {
            for (int variable = 0; variable < needed.length; variable++) {
                int property = VARIABLES + variable;
                Rule rule = property < deciding.length ? deciding[property] : null;
                Declaration declaration = rule == null ? null : rule.declarationOf(property);
                boolean isNeedy = declaration != null && declaration.kind == Declaration.VARIABLE;
                needed[variable] = isNeedy ? declaration.variable : NONE;
            }
        }

        private boolean isInRing(int variable) {
            int at = variable;
            for (int step = 0; step < VARIABLE_COUNT && at >= 0 && at < needed.length; step++) {
                at = needed[at];
                if (at == variable) {
                    return true;
                }
            }
            return false;
        }

        /**
         * Finds the rule of each property's strongest declaration, or of that to which BACK goes; null without one.
         * All rules of one origin, layer and importance stand together, so BACK passes over the rest of its group.
         */
        private void findDeciding() {
            for (int property = 0; property < deciding.length && property < passed.length; property++) {
                deciding[property] = null;
                passed[property] = NONE;
            }
            for (int k = 0; k < listed.size(); k++) {
                letDecide(listed.get(k));
            }
        }

        /** Lets a rule, weaker than all that were let, decide where none does yet. */
        private void letDecide(Rule rule) {
            for (int property = 0; property < deciding.length && property < passed.length; property++) {
                Declaration declaration = deciding[property] == null ? rule.declarationOf(property) : null;
                if (declaration != null && rule.group != passed[property]) {
                    if (declaration.kind == BACK) {
                        passed[property] = rule.group;
                    } else {
                        deciding[property] = rule;
                    }
                }
            }
        }

        private void findOne(Element element, int property) {
            Rule rule = property >= 0 && property < deciding.length ? deciding[property] : null;
            Declaration declaration = rule == null ? null : rule.declarationOf(property);
            boolean isInherited = Property.isInherited(property);
            if (rule != null && declaration != null) {
                if (declaration.kind == Declaration.NUMBER) {
                    element.fresh.put(property, declaration.number, rule.number);
                    return;
                }
                if (declaration.kind == Declaration.VARIABLE) {
                    int told = declaration.numberByVariable(property, element.fresh);
                    if (told != NONE) {
                        element.fresh.put(property, told, rule.number);
                        return;
                    }
                }
                isInherited = declaration.kind == INHERIT || isInherited && declaration.kind != INITIAL;
            }
            if (isInherited && element.parent != null) {
                Look above = element.parent.fresh;
                element.fresh.put(property, above.valueOf(property), above.sourceOf(property));
            } else {
                element.fresh.put(property, Property.atFirst(property), NONE);
            }
        }
    }

    // ---- the layout

    /** Words as decimal digits, the first word the lowest one. */
    private static final class Text {
        /** How many words there are; NONE if one has no letters. */
        static int countWords(int words) {
            int count = 0;
            int rest = words;
            while (count < MOST_WORDS && rest > 0) {
                if (rest % 10 == 0) {
                    return NONE;
                }
                rest /= 10;
                count++;
            }
            return count;
        }

        static int longestWord(int words) {
            int longest = 0;
            int rest = words;
            for (int k = 0; k < MOST_WORDS && rest > 0; k++) {
                longest = Math.max(longest, rest % 10);
                rest /= 10;
            }
            return longest;
        }

        static int countLines(int words, int size, int width) {
            int count = 0;
            int used = 0;
            int rest = words;
            for (int k = 0; k < MOST_WORDS && rest > 0; k++) {
                int word = rest % 10 * size;
                if (count > 0 && used + size + word <= width) {
                    used += size + word;
                } else {
                    count++;
                    used = word;
                }
                rest /= 10;
            }
            return count;
        }
    }

    /** Finds widths and lefts downwards, then heights upwards, then tops downwards. */
    private static final class Layout {
        static void measureRoot(Look root, int window) {
            root.beginBox(root.valueOf(DISPLAY) != NOTHING);
            if (root.hasBox) {
                root.width = ownWidth(root, window);
            }
        }

        private static int ownWidth(Look look, int otherwise) {
            int wide = look.valueOf(WIDTH);
            return look.atMost(wide == AUTO ? otherwise : wide);
        }

        /** Begins the boxes of the children, with their widths and how far they are from the left. */
        static void measureChildren(Element parent) {
            Look around = parent.fresh;
            for (Element child = parent.first; child != null; child = child.next) {
                child.fresh.beginBox(around.hasBox && child.fresh.valueOf(DISPLAY) != NOTHING);
            }
            if (around.hasBox) {
                switch (around.valueOf(DISPLAY)) {
                    case ROW:
                        measureRow(parent);
                        break;
                    case GRID:
                        measureGrid(parent);
                        break;
                    default:
                        measureBlock(parent);
                        break;
                }
            }
        }

        private static void measureBlock(Element parent) {
            for (Element child = parent.first; child != null; child = child.next) {
                Look look = child.fresh;
                if (look.hasBox) {
                    look.width = ownWidth(look, parent.fresh.width);
                    look.left = parent.fresh.left;
                }
            }
        }

        private static void measureGrid(Element parent) {
            int tracks = parent.fresh.valueOf(TRACKS);
            if (tracks < 1) {
                return;
            }
            int each = parent.fresh.width / tracks;
            int wider = parent.fresh.width % tracks;
            int column = 0;
            for (Element child = parent.first; child != null; child = child.next) {
                Look look = child.fresh;
                if (look.hasBox) {
                    look.width = column < wider ? each + 1 : each;
                    look.left = parent.fresh.left + column * each + Math.min(column, wider);
                    column = column + 1 < tracks ? column + 1 : 0;
                }
            }
        }

        private static void measureRow(Element parent) {
            for (Element child = parent.first; child != null; child = child.next) {
                Look look = child.fresh;
                if (look.hasBox) {
                    int letters = child.isContainer ? 0 : Text.longestWord(child.words);
                    look.width = ownWidth(look, letters * look.valueOf(SIZE));
                }
            }
            // each round but the last one freezes a child
            boolean isShared = false;
            for (int round = 0; round <= MOST_ELEMENTS && !isShared; round++) {
                isShared = shareRest(parent);
            }
            int left = parent.fresh.left;
            for (Element child = parent.first; child != null; child = child.next) {
                Look look = child.fresh;
                if (look.hasBox) {
                    look.left = left;
                    left += look.width;
                }
            }
        }

        /** Shares what the row has left among those that are not frozen; false if that froze some of them. */
        private static boolean shareRest(Element parent) {
            int rest = parent.fresh.width;
            int growth = 0;
            for (Element child = parent.first; child != null; child = child.next) {
                Look look = child.fresh;
                if (look.hasBox) {
                    rest -= look.width;
                    growth += look.isFrozen ? 0 : look.valueOf(GROW);
                }
            }
            if (rest <= 0 || growth <= 0) {
                return true;
            }
            findGains(parent, rest, growth);
            if (freezeTooWide(parent)) {
                return false;
            }
            for (Element child = parent.first; child != null; child = child.next) {
                child.fresh.width += child.fresh.gain;
            }
            return true;
        }

        private static void findGains(Element parent, int rest, int growth) {
            int over = rest;
            for (Element child = parent.first; child != null; child = child.next) {
                Look look = child.fresh;
                look.gain = look.hasBox && !look.isFrozen && growth > 0 ? rest * look.valueOf(GROW) / growth : 0;
                over -= look.gain;
            }
            for (Element child = parent.first; child != null && over > 0; child = child.next) {
                Look look = child.fresh;
                if (look.hasBox && !look.isFrozen && look.valueOf(GROW) > 0) {
                    look.gain++;
                    over--;
                }
            }
        }

        private static boolean freezeTooWide(Element parent) {
            boolean isAny = false;
            for (Element child = parent.first; child != null; child = child.next) {
                Look look = child.fresh;
                int wished = look.width + look.gain;
                int allowed = look.atMost(wished);
                if (look.hasBox && !look.isFrozen && allowed < wished) {
                    look.width = allowed;
                    look.isFrozen = true;
                    isAny = true;
                }
            }
            return isAny;
        }

        /** The children's heights are found already; their tops are told from that of the element, for now. */
        static void findHeight(Element element) {
            Look look = element.fresh;
            if (!look.hasBox) {
                return;
            }
            int size = look.valueOf(SIZE);
            look.lineCount = Text.countLines(element.words, size, look.width);
            int start = look.lineCount * size;
            int end;
            switch (look.valueOf(DISPLAY)) {
                case ROW:
                    end = stackRows(element, start, MOST_ELEMENTS);
                    break;
                case GRID:
                    end = stackRows(element, start, look.valueOf(TRACKS));
                    break;
                default:
                    end = stackBlocks(element, start);
                    break;
            }
            int high = look.valueOf(HEIGHT);
            look.height = high == AUTO ? end : high;
        }

        private static int stackBlocks(Element parent, int start) {
            int end = start;
            int margin = 0;
            for (Element child = parent.first; child != null; child = child.next) {
                Look look = child.fresh;
                if (look.hasBox) {
                    look.top = end + Math.max(margin, look.valueOf(ABOVE));
                    end = look.top + look.height;
                    margin = look.valueOf(BEHIND);
                }
            }
            return end + margin;
        }

        private static int stackRows(Element parent, int start, int columns) {
            int rowTop = start;
            int rowHeight = 0;
            int column = 0;
            for (Element child = parent.first; child != null; child = child.next) {
                Look look = child.fresh;
                if (look.hasBox) {
                    if (column >= columns) {
                        rowTop += rowHeight;
                        rowHeight = 0;
                        column = 0;
                    }
                    look.top = rowTop + look.valueOf(ABOVE);
                    rowHeight = Math.max(rowHeight, look.heightWithMargins());
                    column++;
                }
            }
            return rowTop + rowHeight;
        }

        static void placeChildren(Element parent) {
            for (Element child = parent.first; child != null; child = child.next) {
                if (child.fresh.hasBox) {
                    child.fresh.top += parent.fresh.top;
                }
            }
        }
    }
}
