/**
 * The last value that is in the range of each argument of each call, at both ends: that it is taken, what is answered,
 * and that it is in force as it was told. What lies beside the ranges is looked at by RefusedTest.
 */
public final class RangesTest {
    private static final int NONE = CascadeHouse.NONE, AUTO = CascadeHouse.AUTO;
    private static final int WIDTH = 0, HEIGHT = 1, MOST = 2, ABOVE = 3, BEHIND = 4, DISPLAY = 5, GROW = 6, TRACKS = 7,
        COLOUR = 8, SIZE = 9, VARIABLES = 10, MARGIN = 14;
    private static final int CHILD = 0, NEXT = 2;
    private static final int READER = 0, AUTHOR = 1;
    private static final int INHERIT = 0, INITIAL = 1, BACK = 3;
    private static final int[] LEAST = {0, 0, 0, 0, 0, 0, 0, 1, 0, 1, 0, 0, 0, 0, 0};
    private static final int[] GREATEST = {2000, 2000, 2000, 100, 100, 3, 9, 6, 99, 20, 2000, 2000, 2000, 2000, 100};
    private static final int[] AT_FIRST = {AUTO, AUTO, AUTO, 0, 0, 0, 0, 1, 0, 1, NONE, NONE, NONE, NONE};

    public static void main(String[] args) {
        tagsAndClassesOfElements();
        numbersOfElements();
        numbersAreNotGivenAgain();
        words();
        containers();
        windows();
        rules();
        numbersOfRules();
        classesOfRules();
        parts();
        asking();
        declaring();
        saying();
        referring();
        emptying();
        questions();
        Check.end();
    }

    private static void due(String what, long got, long want) {
        Check.due(what, got, want);
    }

    private static void due(String what, boolean got, boolean want) {
        Check.due(what, got, want);
    }

    private static void valueDue(String what, CascadeHouse x, int element, int property, int value, int from) {
        due(what + ": value(" + element + ", " + property + ")", x.value(element, property), value);
        due(what + ": valueAnew(" + element + ", " + property + ")", x.valueAnew(element, property), value);
        due(what + ": from(" + element + ", " + property + ")", x.from(element, property), from);
    }

    /** The properties that one stands for: MARGIN for ABOVE and BEHIND alike. */
    private static int[] meant(int property) {
        return property == MARGIN ? new int[] {ABOVE, BEHIND} : new int[] {property};
    }

    /** A rule of the author in the layer 0, not important, that fits each element of the tag. */
    private static int plain(CascadeHouse x, int tag) {
        return x.rule(tag, 0, 0, AUTHOR, 0, false);
    }

    // ---- elements

    private static void tagsAndClassesOfElements() {
        for (int tag = 0; tag <= 5; tag++) {
            for (int classes : new int[] {0, 1, 2, 127, 128, 254, 255}) {
                CascadeHouse x = new CascadeHouse();
                due("add", x.add(0, tag, classes), 1);
                due("reached()", x.reached(), 1);
                for (int one = 0; one <= 5; one++) {
                    due("tag " + one + " for tag " + tag, x.fits(plain(x, one), 1), one == tag);
                }
                for (int k = 0; k < 8; k++) {
                    int rule = x.rule(NONE, 1 << k, 0, AUTHOR, 0, false);
                    due("class " + k + " of " + classes, x.fits(rule, 1), (classes >> k & 1) == 1);
                }
                due("dress answers those before", x.dress(1, 255 - classes), classes);
                due("and again", x.dress(1, classes), 255 - classes);
            }
        }
        CascadeHouse x = new CascadeHouse();
        due("the root has no classes", x.dress(0, 255), 0);
        due("then it has all", x.dress(0, 0), 255);
        for (int tag = 0; tag <= 5; tag++) {
            due("the root has the tag 0", x.fits(plain(x, tag), 0), tag == 0);
        }
    }

    private static void numbersOfElements() {
        CascadeHouse x = new CascadeHouse();
        for (int k = 1; k < 24; k++) {
            due("below the one with the highest number", x.add(k - 1, 0, 0), k);
        }
        due("dress the root", x.dress(0, 3), 0);
        due("dress the last one", x.dress(23, 4), 0);
        due("text of the root", x.text(0, 1), 1);
        due("text of the last one", x.text(23, 12), 2);
        due("lines of the root", x.lines(0), 1);
        due("lines of the last one", x.lines(23), 1);
        due("contain the last one", x.contain(23, true), false);
        due("box of the last one", x.box(23, 1), 1);
        due("boxAnew of the last one", x.boxAnew(23, 3), 1);
        due("value of the last one", x.value(23, SIZE), 1);
        due("valueAnew of the last one", x.valueAnew(23, SIZE), 1);
        due("from of the last one", x.from(23, SIZE), NONE);
        due("remove the last one", x.remove(23), 1);
        due("a child of the root", x.add(0, 0, 0), 24);
        due("24 are there", x.elements(), 24);
        due("remove the first one with all below it", x.remove(1), 22);
        due("those that went, and the root", x.reached(), 22);
        due("the root and the last one are there", x.elements(), 2);
    }

    private static void numbersAreNotGivenAgain() {
        CascadeHouse x = new CascadeHouse();
        for (int k = 0; k < 8; k++) {
            int last = 3 * k;
            due("add", x.add(0, 0, 0), last + 1);
            due("add", x.add(0, 0, 0), last + 2);
            due("add below it", x.add(last + 2, 0, 0), last + 3);
            due("remove the last two", x.remove(last + 2), 2);
            due("they went", x.reached(), 2);
            due("elements()", x.elements(), k + 2);
            Check.throwsDue("one that went", Check.BOUNDS, () -> x.lines(last + 2));
            Check.throwsDue("one below it", Check.BOUNDS, () -> x.lines(last + 3));
            Check.throwsDue("one that is to come", Check.BOUNDS, () -> x.lines(last + 4));
        }
    }

    private static void words() {
        int[][] counts = {
            {0, 0}, {1, 1}, {9, 1}, {11, 2}, {19, 2}, {91, 2}, {99, 2}, {111, 3}, {1111, 4}, {11111, 5}, {111111, 6},
            {1111111, 7}, {9999999, 7}, {11111111, 8}, {99999999, 8}, {12345678, 8}, {51111113, 8},
        };
        for (int[] one : counts) {
            CascadeHouse x = new CascadeHouse();
            x.add(0, 1, 0);
            due("text " + one[0], x.text(1, one[0]), one[1]);
            due("in one line, if any", x.lines(1), one[1] == 0 ? 0 : 1);
            due("as high as that", x.box(1, 3), one[1] == 0 ? 0 : 1);
            x.window(0);
            due("a line a word", x.lines(1), one[1]);
            due("as high as these", x.box(1, 3), one[1]);
            due("and around it", x.box(0, 3), one[1]);
            x.window(100);
            x.declare(plain(x, 0), DISPLAY, CascadeHouse.ROW);
            int widest = 0;
            for (char letters : Integer.toString(one[0]).toCharArray()) {
                widest = Math.max(widest, letters - '0');
            }
            due("as wide as the widest of " + one[0], x.box(1, 2), widest);
            due("none again", x.text(1, 0), 0);
            due("no lines", x.lines(1), 0);
            due("no width", x.box(1, 2), 0);
        }
    }

    private static void containers() {
        CascadeHouse x = new CascadeHouse();
        x.add(0, 1, 0);
        for (int e = 0; e <= 1; e++) {
            due("not at first, and not made", x.contain(e, false), false);
            due("not at first, and made", x.contain(e, true), false);
            due("it was", x.contain(e, true), true);
            due("it was, but no more", x.contain(e, false), true);
            due("it was not", x.contain(e, false), false);
        }
    }

    private static void windows() {
        CascadeHouse x = new CascadeHouse();
        int before = 100;
        due("at first", x.box(0, 2), before);
        for (int width : new int[] {2000, 0, 1, 1999, 2000, 2000}) {
            due("window(" + width + ")", x.window(width), before);
            due("reached()", x.reached(), width == before ? 0 : 1);
            due("as wide as that", x.box(0, 2), width);
            due("anew", x.boxAnew(0, 2), width);
            before = width;
        }
    }

    // ---- rules

    private static void rules() {
        for (int tag = NONE; tag <= 5; tag++) {
            for (int k = 0; k < 12; k++) {
                CascadeHouse x = new CascadeHouse();
                due("rule", x.rule(tag, 0, 0, k % 2, k / 2 % 3, k / 6 == 1), 0);
                due("reached()", x.reached(), 0);
                due("a tag weighs 1", x.weight(0), tag == NONE ? 0 : 1);
                due("fits the root", x.fits(0, 0), tag == NONE || tag == 0);
                due("asks for no width", x.ask(0, NONE), NONE);
                due("without declarations", x.empty(0), 0);
                due("the next one", x.rule(tag, 0, 0, k % 2, k / 2 % 3, k / 6 == 1), 1);
                x.declare(1, SIZE, 20);
                valueDue("in force", x, 0, SIZE, tag <= 0 ? 20 : 1, tag <= 0 ? 1 : NONE);
            }
        }
    }

    private static void numbersOfRules() {
        CascadeHouse x = new CascadeHouse();
        x.add(0, 1, 0);
        x.contain(0, true);
        for (int r = 0; r < 16; r++) {
            due("rule", plain(x, r == 0 || r == 15 ? 1 : 2), r);
        }
        for (int r : new int[] {0, 15}) {
            due("part(" + r + ")", x.part(r, CHILD, 0, 0, 0), 2);
            due("ask(" + r + ")", x.ask(r, 100), NONE);
            due("weight(" + r + ")", x.weight(r), 2);
            due("fits(" + r + ")", x.fits(r, 1), true);
            due("declare(" + r + ")", x.declare(r, COLOUR, 30 + r), 1);
            valueDue("declared", x, 1, COLOUR, 30 + r, r);
            due("say(" + r + ")", x.say(r, SIZE, INHERIT), 2);
            valueDue("said", x, 1, SIZE, 1, NONE);
            due("refer(" + r + ")", x.refer(r, GROW, 3, 9), 3);
            valueDue("referred", x, 1, GROW, 9, r);
            x.window(99);
            valueDue("asked", x, 1, GROW, 0, NONE);
            x.window(100);
            due("empty(" + r + ")", x.empty(r), 3);
            valueDue("emptied", x, 1, COLOUR, 0, NONE);
        }
    }

    private static void classesOfRules() {
        int[] sets = {0, 1, 128, 129, 254, 255};
        for (int has : sets) {
            for (int lacks : sets) {
                CascadeHouse x = new CascadeHouse();
                due("rule", x.rule(NONE, has, lacks, READER, 2, true), 0);
                due("weight", x.weight(0), 10 * Integer.bitCount(has) + 10 * Integer.bitCount(lacks));
                for (int classes : new int[] {0, 1, 2, 127, 128, 129, 253, 254, 255}) {
                    x.dress(0, classes);
                    boolean isDue = (classes | has) == classes && (classes | lacks) == classes + lacks;
                    due("has " + has + ", lacks " + lacks + " for " + classes, x.fits(0, 0), isDue);
                }
            }
        }
    }

    private static void parts() {
        for (int way = CHILD; way <= NEXT; way++) {
            for (int tag = NONE; tag <= 5; tag++) {
                CascadeHouse x = new CascadeHouse();
                x.add(0, 1, 0);
                x.add(0, 2, 0);
                x.add(2, 3, 0);
                plain(x, 3);
                int ones = tag == NONE ? 1 : 2;
                due("part", x.part(0, way, tag, 0, 0), ones);
                // the element 3 is a child of one with the tag 2, below that and the root, and no sibling is ahead of it
                boolean isBelow = way == 0 && (tag == NONE || tag == 2) || way == 1 && (tag <= 0 || tag == 2);
                due("way " + way + ", tag " + tag, x.fits(0, 3), isBelow);
                due("all classes of the third one", x.part(0, way, tag, 255, 255), (tag == NONE ? 1 : 3) + 160);
                due("weight", x.weight(0), (tag == NONE ? 1 : 3) + 160);
                due("nothing can fit that", x.fits(0, 3), false);
                plain(x, 2);
                x.part(1, way, tag, 0, 255);
                boolean isAside = way == NEXT ? tag <= 1 && tag != 0 : tag <= 0;
                due("way " + way + ", tag " + tag + " for the second one", x.fits(1, 2), isAside);
            }
        }
        CascadeHouse x = new CascadeHouse();
        x.rule(5, 255, 255, READER, 0, false);
        x.part(0, CHILD, 5, 255, 255);
        due("the greatest weight that there is", x.part(0, NEXT, 0, 255, 255), 483);
        x.rule(NONE, 0, 0, AUTHOR, 0, false);
        x.part(1, CHILD, NONE, 0, 0);
        due("the least one", x.part(1, NEXT, NONE, 0, 0), 0);
    }

    private static void asking() {
        for (int least : new int[] {0, 1, 1000, 1999, 2000}) {
            CascadeHouse x = new CascadeHouse();
            x.add(0, 1, 0);
            x.contain(0, true);
            plain(x, 1);
            x.declare(0, COLOUR, 9);
            due("ask(0, " + least + ")", x.ask(0, least), NONE);
            for (int width = Math.max(0, least - 1); width <= Math.min(2000, least + 1); width++) {
                x.window(width);
                boolean isThere = width >= least;
                valueDue("ask " + least + " in " + width, x, 1, COLOUR, isThere ? 9 : 0, isThere ? 0 : NONE);
                due("fits, whether it asks or not", x.fits(0, 1), true);
            }
            x.window(0);
            due("ask no more", x.ask(0, NONE), least);
            valueDue("there again", x, 1, COLOUR, 9, 0);
            due("asked no more", x.ask(0, NONE), NONE);
        }
    }

    private static void declaring() {
        for (int property = WIDTH; property <= MARGIN; property++) {
            int least = LEAST[property];
            int greatest = GREATEST[property];
            CascadeHouse x = new CascadeHouse();
            plain(x, 0);
            for (int value : new int[] {least, least + 1, greatest - 1, greatest, AUTO}) {
                if (value != AUTO || property <= MOST) {
                    due("declare(0, " + property + ", " + value + ")", x.declare(0, property, value), property == MARGIN ? 2 : 1);
                    for (int one : meant(property)) {
                        valueDue("declared", x, 0, one, value, 0);
                    }
                }
            }
            due("one of each", x.empty(0), property == MARGIN ? 2 : 1);
        }
    }

    private static void saying() {
        for (int property = WIDTH; property <= MARGIN; property++) {
            CascadeHouse x = new CascadeHouse();
            x.add(0, 1, 0);
            plain(x, 0);
            plain(x, 1);
            x.declare(0, property, LEAST[property] + 1);
            for (int word = INHERIT; word <= BACK; word++) {
                due("say(1, " + property + ", " + word + ")", x.say(1, property, word), property == MARGIN ? 2 : 1);
                boolean isParents = word == INHERIT || word != INITIAL && property >= COLOUR && property != MARGIN;
                for (int one : meant(property)) {
                    valueDue("word " + word, x, 1, one, isParents ? LEAST[property] + 1 : AT_FIRST[one], isParents ? 0 : NONE);
                }
                due("of the root", x.say(0, property, word), property == MARGIN ? 2 : 1);
                for (int one : meant(property)) {
                    valueDue("word " + word + " of the root", x, 0, one, AT_FIRST[one], NONE);
                }
                x.declare(0, property, LEAST[property] + 1);
            }
        }
    }

    private static void referring() {
        for (int property = WIDTH; property <= MARGIN; property++) {
            for (int variable = 0; variable < 4; variable++) {
                for (int fallback : new int[] {NONE, LEAST[property], GREATEST[property]}) {
                    if (property != VARIABLES + variable) {
                        referTo(property, variable, fallback);
                    }
                }
            }
        }
        for (int variable = 0; variable < 4; variable++) {
            CascadeHouse x = new CascadeHouse();
            plain(x, 0);
            due("a variable to itself", x.refer(0, VARIABLES + variable, variable, 2000), 1);
            valueDue("a ring of one", x, 0, VARIABLES + variable, NONE, NONE);
        }
    }

    /** The variable is nothing, then the last values that the property can be, then those beside them. */
    private static void referTo(int property, int variable, int fallback) {
        String what = "refer(1, " + property + ", " + variable + ", " + fallback + ")";
        CascadeHouse x = new CascadeHouse();
        plain(x, 0);
        plain(x, 0);
        due(what, x.refer(1, property, variable, fallback), property == MARGIN ? 2 : 1);
        for (int one : meant(property)) {
            valueDue(what + " to nothing", x, 0, one, fallback == NONE ? AT_FIRST[one] : fallback, fallback == NONE ? NONE : 1);
        }
        for (int number = LEAST[property] - 1; number <= GREATEST[property] + 1; number++) {
            boolean isIn = number >= LEAST[property] && number <= GREATEST[property];
            boolean isNear = number <= LEAST[property] + 1 || number >= GREATEST[property] - 1;
            if (isNear && number >= 0 && number <= 2000) {
                x.declare(0, VARIABLES + variable, number);
                int otherwise = fallback == NONE ? AT_FIRST[meant(property)[0]] : fallback;
                for (int one : meant(property)) {
                    valueDue(what + " to " + number, x, 0, one, isIn ? number : otherwise, isIn || fallback != NONE ? 1 : NONE);
                }
            }
        }
    }

    private static void emptying() {
        int[] properties = {WIDTH, HEIGHT, MOST, GROW, TRACKS, VARIABLES + 3};
        for (int count = 0; count <= 6; count++) {
            CascadeHouse x = new CascadeHouse();
            plain(x, 0);
            for (int k = 0; k < count; k++) {
                due("declare", x.declare(0, properties[k], 5), k + 1);
            }
            due("empty one with " + count, x.empty(0), count);
            due("reached()", x.reached(), count == 0 ? 0 : 1);
            for (int property : properties) {
                valueDue("emptied", x, 0, property, AT_FIRST[property], NONE);
            }
            due("empty again", x.empty(0), 0);
            for (int k = 0; k < 6; k++) {
                due("as many as ever", x.declare(0, properties[k], 5), k + 1);
            }
        }
    }

    // ---- values and boxes

    private static void questions() {
        CascadeHouse x = new CascadeHouse();
        for (int rule = 0; rule < 16; rule++) {
            due("rule", plain(x, rule == 0 ? 1 : 0), rule);
        }
        due("the first rule", x.fits(0, 0), false);
        due("the last rule", x.fits(15, 0), true);
        due("weight(0)", x.weight(0), 1);
        due("weight(15)", x.weight(15), 1);
        x.add(0, 2, 0);
        x.add(0, 1, 0);
        x.declare(15, DISPLAY, CascadeHouse.ROW);
        x.declare(15, VARIABLES + 3, 2000);
        x.declare(0, MARGIN, 3);
        x.declare(0, WIDTH, 4);
        x.declare(0, HEIGHT, 5);
        x.text(1, 2);
        valueDue("the first property", x, 2, WIDTH, 4, 0);
        valueDue("the last property", x, 2, VARIABLES + 3, 2000, 15);
        int[] measures = {2, 3, 4, 5};
        for (int what = 0; what <= 3; what++) {
            due("box(2, " + what + ")", x.box(2, what), measures[what]);
            due("boxAnew(2, " + what + ")", x.boxAnew(2, what), measures[what]);
        }
        due("the last property's rule", x.from(0, VARIABLES + 3), 15);
    }
}
