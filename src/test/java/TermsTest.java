/**
 * The boundary cases that the sentences under "Terms" name: elements, rules, properties and values, and what reached()
 * counts, each worked out by hand. The sentences under "Layout" have LayoutTest.
 */
public final class TermsTest {
    private static final int NONE = CascadeHouse.NONE, AUTO = CascadeHouse.AUTO;
    private static final int WIDTH = 0, HEIGHT = 1, MOST = 2, ABOVE = 3, BEHIND = 4, DISPLAY = 5, GROW = 6, TRACKS = 7,
        COLOUR = 8, SIZE = 9, VARIABLES = 10, MARGIN = 14;
    private static final int ROW = 1, GRID = 2, NOTHING = 3;
    private static final int CHILD = 0, BELOW = 1, NEXT = 2;
    private static final int READER = 0, AUTHOR = 1;
    private static final int INHERIT = 0, INITIAL = 1, UNSET = 2, BACK = 3;
    private static final int[] AT_FIRST = {AUTO, AUTO, AUTO, 0, 0, 0, 0, 1, 0, 1, NONE, NONE, NONE, NONE};

    public static void main(String[] args) {
        aNewObject();
        full();
        aNewElementIsEmpty();
        twoWays();
        farBelow();
        siblings();
        selectedWithoutABox();
        inheritedWithoutABox();
        ties();
        lateRules();
        heavierRules();
        nearestContainer();
        containersWithoutWidth();
        atMostOneOfEach();
        backToTheEnd();
        backOverItsGroup();
        ringsOfOneToFour();
        needingARing();
        ringsOnAnElement();
        inheritedThroughAll();
        nothingReached();
        allReached();
        cameAndWent();
        otherBoxes();
        otherValues();
        noneOrNothing();
        noBoxMoves();
        theLastCall();
        Check.end();
    }

    private static void due(String what, long got, long want) {
        Check.due(what, got, want);
    }

    private static void due(String what, boolean got, boolean want) {
        Check.due(what, got, want);
    }

    private static void valueDue(String what, CascadeHouse x, int element, int property, int value, int from) {
        due(what + ": value(" + element + ", " + property + ")", x.value(element, property), value);
        due(what + ": valueAnew(" + element + ", " + property + ")", x.valueAnew(element, property), value);
        due(what + ": from(" + element + ", " + property + ")", x.from(element, property), from);
    }

    /** A rule of the author in the layer 0, not important, that fits each element of the tag. */
    private static int plain(CascadeHouse x, int tag) {
        return x.rule(tag, 0, 0, AUTHOR, 0, false);
    }

    // ---- empty and full

    /** A house without rules, an element without a text and without children. */
    private static void aNewObject() {
        CascadeHouse x = new CascadeHouse();
        due("the root alone", x.elements(), 1);
        due("0 at first", x.reached(), 0);
        for (int property = 0; property < 14; property++) {
            valueDue("no rules", x, 0, property, AT_FIRST[property], NONE);
        }
        int[] measures = {0, 0, 100, 0};
        for (int what = 0; what < 4; what++) {
            due("box(0, " + what + ")", x.box(0, what), measures[what]);
            due("boxAnew(0, " + what + ")", x.boxAnew(0, what), measures[what]);
        }
        due("no text", x.lines(0), 0);
        Check.throwsDue("no rule to fit", Check.BOUNDS, () -> x.fits(0, 0));
        Check.throwsDue("no rule of a weight", Check.BOUNDS, () -> x.weight(0));
        Check.throwsDue("no rule to declare in", Check.BOUNDS, () -> x.declare(0, SIZE, 2));
        Check.throwsDue("no element below", Check.BOUNDS, () -> x.remove(1));
        due("no classes", x.dress(0, 0), 0);
        due("no container", x.contain(0, false), false);
        due("a window of 100", x.window(100), 100);
        due("the first rule", plain(x, 0), 0);
        due("the first element below", x.add(0, 0, 0), 1);
    }

    /** 24 elements, 16 rules of 3 parts, 6 declarations each, a text of 8 words: all of it in force. */
    private static void full() {
        CascadeHouse x = new CascadeHouse();
        for (int k = 1; k < 24; k++) {
            due("add", x.add(k - 1, 1, 255), k);
        }
        int[] properties = {HEIGHT, COLOUR, SIZE, VARIABLES, ABOVE, BEHIND};
        for (int k = 0; k < 16; k++) {
            due("rule", x.rule(1, 255, 0, AUTHOR, 2, false), k);
            due("the 2nd part", x.part(k, CHILD, 1, 255, 0), 162);
            due("the 3rd part", x.part(k, BELOW, NONE, 0, 255), 242);
            for (int j = 0; j < 6; j++) {
                due("declare", x.declare(k, properties[j], k + 1), j + 1);
            }
        }
        due("text", x.text(23, 11111111), 8);
        // the root has no classes; the element 2 is the first one with two above it
        for (int k : new int[] {0, 1, 2, 12, 23}) {
            boolean isFit = k >= 2;
            due("fits(15, " + k + ")", x.fits(15, k), isFit);
            for (int property : properties) {
                valueDue("full", x, k, property, isFit ? 16 : AT_FIRST[property], isFit ? 15 : NONE);
            }
        }
        // words of 16 with 16 between them: 3 of them are 80 wide, a 4th one does not fit into 100
        due("lines(23)", x.lines(23), 3);
        due("the top of the last one", x.box(23, 1), 22 * 16);
        Check.throwsDue("the 25th element", Check.STATE, () -> x.add(0, 0, 0));
        Check.throwsDue("the 17th rule", Check.STATE, () -> x.rule(0, 0, 0, 0, 0, false));
        Check.throwsDue("the 4th part", Check.STATE, () -> x.part(15, CHILD, 0, 0, 0));
        Check.throwsDue("the 7th declaration", Check.STATE, () -> x.declare(15, MOST, 0));
        due("remove all that can be", x.remove(1), 23);
        due("and as many again", x.add(0, 1, 255), 24);
    }

    /** One that comes has no text, no children and no box of one that went, and is no container. */
    private static void aNewElementIsEmpty() {
        CascadeHouse x = new CascadeHouse();
        x.add(0, 1, 255);
        due("remove it", x.remove(1), 1);
        due("it went", x.reached(), 1);
        due("one just like it", x.add(0, 1, 0), 2);
        due("it came", x.reached(), 1);
        x.text(2, 99);
        x.contain(2, true);
        x.add(2, 5, 0);
        x.add(2, 5, 0);
        x.text(3, 9);
        x.text(4, 9);
        x.declare(plain(x, 5), MARGIN, 3);
        x.remove(2);
        for (int made = 5; made <= 7; made++) {
            due("another one", x.add(0, 1, 0), made);
            due("it came", x.reached(), 1);
            due("without a text", x.lines(made), 0);
            due("of no height", x.box(made, 3), 0);
            due("without classes", x.dress(made, 0), 0);
            due("no container", x.contain(made, false), false);
            due("without children, and alone", x.remove(made), 1);
            due("it went", x.reached(), 1);
        }
        x.add(0, 1, 0);
        x.add(8, 1, 0);
        x.text(9, 9);
        due("as high as its only child", x.box(8, 3), 1);
        due("a child of it", x.remove(8), 2);
        due("the root is as empty as at first", x.box(0, 3), 0);
        due("without children", x.elements(), 1);
    }

    // ---- selectors

    /** A selector of three parts, by each way and each next way, with each two tags, for one element. */
    private static void twoWays() {
        // tags: the root 0 has children of 1 and 2, that of 2 has children of 5, 3 and 4; the last one is looked at
        String[][] fitting = {{"20", "20", "21"}, {"20", "20", "21"}, {"32", "32 30", "35"}};
        for (int way = CHILD; way <= NEXT; way++) {
            for (int next = CHILD; next <= NEXT; next++) {
                for (int pair = 0; pair < 36; pair++) {
                    CascadeHouse x = new CascadeHouse();
                    x.add(0, 1, 0);
                    x.add(0, 2, 0);
                    x.add(2, 5, 0);
                    x.add(2, 3, 0);
                    x.add(2, 4, 0);
                    plain(x, 4);
                    x.part(0, way, pair / 6, 0, 0);
                    x.part(0, next, pair % 6, 0, 0);
                    String tags = "" + pair / 6 + pair % 6;
                    due("ways " + way + " and " + next + ", tags " + tags, x.fits(0, 5), fitting[way][next].contains(tags));
                }
            }
        }
    }

    /** Which of those above fits the second part decides whether the third one can be fitted. */
    private static void farBelow() {
        CascadeHouse x = new CascadeHouse();
        for (int k = 1; k < 24; k++) {
            x.add(k - 1, k % 6, 0);
        }
        plain(x, 5);
        x.part(0, BELOW, 0, 1, 0);
        due("none above has the class", x.fits(0, 23), false);
        x.dress(0, 1);
        due("the farthest one has", x.fits(0, 23), true);
        x.part(0, BELOW, NONE, 0, 0);
        due("none is above that", x.fits(0, 23), false);
        plain(x, 5);
        x.part(1, BELOW, 0, 0, 0);
        x.part(1, CHILD, 5, 2, 0);
        due("no such parent", x.fits(1, 23), false);
        for (int k : new int[] {17, 11, 5}) {
            x.dress(k, 2);
            due("that below " + k + " has such a parent", x.fits(1, 23), true);
            x.dress(k, 0);
            due("none has any more", x.fits(1, 23), false);
        }
        x.dress(23, 2);
        due("not the element itself", x.fits(1, 23), false);
        plain(x, 5);
        x.part(2, BELOW, 5, 0, 0);
        due("one below one like it", x.fits(2, 11), true);
        due("the first one is not below itself", x.fits(2, 5), false);
    }

    private static void siblings() {
        CascadeHouse x = new CascadeHouse();
        for (int k = 1; k <= 5; k++) {
            x.add(0, k, 0);
        }
        x.rule(NONE, 0, 0, READER, 0, false);
        x.part(0, NEXT, NONE, 0, 0);
        x.rule(NONE, 0, 0, READER, 0, false);
        x.part(1, NEXT, NONE, 0, 0);
        x.part(1, NEXT, NONE, 0, 0);
        x.rule(5, 0, 0, READER, 0, false);
        x.part(2, NEXT, 3, 0, 0);
        for (int e = 0; e <= 5; e++) {
            due("a sibling ahead of " + e, x.fits(0, e), e >= 2);
            due("two siblings ahead of " + e, x.fits(1, e), e >= 3);
        }
        due("not right ahead", x.fits(2, 5), false);
        x.remove(4);
        due("right ahead when the one between went", x.fits(2, 5), true);
        x.remove(1);
        due("the first one then", x.fits(0, 2), false);
        due("the second one then", x.fits(1, 3), false);
        due("the third one then", x.fits(1, 5), true);
        x.remove(5);
        due("behind the last one that is there", x.add(0, 5, 0), 6);
        due("right ahead of the new one", x.fits(2, 6), true);
        x.add(3, 5, 0);
        due("the parent is no sibling", x.fits(2, 7), false);
        due("nor has it one", x.fits(0, 7), false);
    }

    /** What has no box takes no part in the layout alone: selectors are of elements, and rules are told as ever. */
    private static void selectedWithoutABox() {
        CascadeHouse x = new CascadeHouse();
        x.add(0, 1, 0);
        x.add(0, 2, 0);
        x.add(0, 3, 0);
        x.add(2, 4, 0);
        x.add(4, 5, 0);
        int[] ways = {NEXT, NEXT, CHILD, BELOW};
        int[] tags = {3, 3, 4, 5};
        int[] parts = {2, 1, 2, 2};
        for (int k = 0; k < ways.length; k++) {
            plain(x, tags[k]);
            x.part(k, ways[k], parts[k], 0, 0);
            x.declare(k, COLOUR, 10 + k);
        }
        int hidden = plain(x, 2);
        for (int display = 0; display <= NOTHING; display++) {
            x.declare(hidden, DISPLAY, display);
            String what = "DISPLAY " + display;
            due(what + ": right behind it", x.fits(0, 3), true);
            due(what + ": not right behind the one ahead of it", x.fits(1, 3), false);
            due(what + ": its child", x.fits(2, 4), true);
            due(what + ": one below it", x.fits(3, 5), true);
            valueDue(what + ": right behind it", x, 3, COLOUR, 10, 0);
            valueDue(what + ": its child", x, 4, COLOUR, 12, 2);
            valueDue(what + ": one below it", x, 5, COLOUR, 13, 3);
        }
        due("it is there", x.elements(), 6);
    }

    private static void inheritedWithoutABox() {
        CascadeHouse x = new CascadeHouse();
        x.add(0, 1, 0);
        x.add(1, 2, 0);
        x.add(2, 3, 0);
        plain(x, 0);
        plain(x, 1);
        plain(x, 3);
        x.declare(0, COLOUR, 5);
        x.declare(0, WIDTH, 50);
        x.declare(0, VARIABLES, 50);
        x.declare(1, COLOUR, 6);
        x.declare(1, WIDTH, 60);
        x.declare(1, VARIABLES, 60);
        x.say(2, WIDTH, INHERIT);
        x.refer(2, HEIGHT, 0, NONE);
        for (int display : new int[] {0, NOTHING}) {
            x.declare(1, DISPLAY, display);
            valueDue("COLOUR, DISPLAY " + display, x, 3, COLOUR, 6, 1);
            valueDue("the variable, DISPLAY " + display, x, 3, VARIABLES, 60, 1);
            valueDue("HEIGHT by it, DISPLAY " + display, x, 3, HEIGHT, 60, 2);
            valueDue("WIDTH, DISPLAY " + display, x, 3, WIDTH, AUTO, NONE);
        }
        x.rule(2, 0, 0, AUTHOR, 0, false);
        x.say(3, WIDTH, INHERIT);
        x.say(3, DISPLAY, INHERIT);
        valueDue("WIDTH by two", x, 3, WIDTH, 60, 1);
        valueDue("DISPLAY is not for the one below", x, 3, DISPLAY, 0, NONE);
        valueDue("DISPLAY by INHERIT", x, 2, DISPLAY, NOTHING, 1);
    }

    // ---- which rule is stronger

    private static void ties() {
        CascadeHouse x = new CascadeHouse();
        x.add(0, 0, 128);
        x.add(1, 0, 128);
        x.rule(NONE, 128, 0, AUTHOR, 0, false);
        x.declare(0, COLOUR, 10);
        plain(x, 0);
        x.part(1, CHILD, 0, 0, 0);
        x.part(1, CHILD, 0, 0, 0);
        x.declare(1, COLOUR, 11);
        valueDue("a class weighs more than three tags", x, 2, COLOUR, 10, 0);
        x.rule(NONE, 0, 1, AUTHOR, 0, false);
        x.declare(2, COLOUR, 12);
        valueDue("what is not weighs as much; the later one", x, 2, COLOUR, 12, 2);
        x.rule(NONE, 0, 2, AUTHOR, 0, false);
        x.declare(3, COLOUR, 13);
        valueDue("and one later still", x, 2, COLOUR, 13, 3);
        x.part(0, CHILD, 0, 0, 0);
        valueDue("one more makes the first one stronger", x, 2, COLOUR, 10, 0);
        x.part(2, CHILD, 0, 0, 0);
        valueDue("as much, and later", x, 2, COLOUR, 12, 2);
        x.rule(NONE, 0, 0, AUTHOR, 1, false);
        x.declare(4, COLOUR, 14);
        valueDue("the layer is ahead of the weight", x, 2, COLOUR, 14, 4);
        x.rule(NONE, 0, 0, READER, 0, true);
        x.declare(5, COLOUR, 15);
        valueDue("importance is ahead of that", x, 2, COLOUR, 15, 5);
        x.empty(5);
        x.empty(4);
        valueDue("as it was", x, 2, COLOUR, 12, 2);
    }

    /** Of 16 rules alike the last one is the strongest, whatever the order in which they declare. */
    private static void lateRules() {
        CascadeHouse x = new CascadeHouse();
        for (int k = 0; k < 16; k++) {
            plain(x, 0);
        }
        for (int k = 15; k >= 0; k--) {
            x.declare(k, COLOUR, k);
            valueDue("the last one", x, 0, COLOUR, 15, 15);
        }
        for (int k = 15; k > 0; k--) {
            x.empty(k);
            valueDue("the last one that declares", x, 0, COLOUR, k - 1, k - 1);
        }
    }

    /** A rule that becomes as heavy as a later one stays behind it; one that becomes heavier does not. */
    private static void heavierRules() {
        CascadeHouse x = new CascadeHouse();
        x.add(0, 1, 1);
        for (int k = 0; k < 3; k++) {
            plain(x, 1);
            x.declare(k, COLOUR, 10 + k);
        }
        x.part(2, CHILD, 0, 0, 0);
        valueDue("2 to 1", x, 1, COLOUR, 12, 2);
        x.part(0, CHILD, 0, 0, 0);
        valueDue("2 to 2, and later", x, 1, COLOUR, 12, 2);
        x.part(1, CHILD, NONE, 0, 0);
        valueDue("a part without a weight", x, 1, COLOUR, 12, 2);
        x.say(2, COLOUR, BACK);
        valueDue("back over those of its layer", x, 1, COLOUR, 0, NONE);
        x.declare(2, COLOUR, 12);
        x.add(1, 1, 0);
        x.rule(NONE, 0, 0, AUTHOR, 0, false);
        x.declare(3, COLOUR, 13);
        valueDue("a rule that weighs nothing is the weakest one", x, 1, COLOUR, 12, 2);
        valueDue("but it is there where no other one fits", x, 0, COLOUR, 13, 3);
        x.part(0, BELOW, NONE, 0, 0);
        valueDue("what does not fit, however heavy", x, 1, COLOUR, 12, 2);
    }

    // ---- asking for a width

    private static void nearestContainer() {
        CascadeHouse x = new CascadeHouse();
        for (int k = 0; k < 3; k++) {
            x.add(k, k + 1, 0);
        }
        x.rule(NONE, 0, 0, AUTHOR, 0, false);
        x.declare(0, GROW, 9);
        x.ask(0, 50);
        plain(x, 1);
        x.declare(1, WIDTH, 50);
        plain(x, 2);
        x.declare(2, WIDTH, 60);
        thereDue("no container", x, false, false, false, false);
        x.contain(1, true);
        thereDue("below 1, not itself", x, false, false, true, true);
        x.declare(1, WIDTH, 49);
        thereDue("one less", x, false, false, false, false);
        x.contain(2, true);
        thereDue("the nearest one is wider", x, false, false, false, true);
        x.contain(0, true);
        thereDue("below the root", x, false, true, false, true);
        x.contain(1, false);
        thereDue("1 is none any more", x, false, true, true, true);
        x.declare(2, MOST, 49);
        thereDue("the box counts, not WIDTH", x, false, true, true, false);
        x.declare(2, MOST, 50);
        thereDue("just as wide", x, false, true, true, true);
        x.contain(3, true);
        thereDue("not itself", x, false, true, true, true);
        x.window(49);
        thereDue("by the window", x, false, false, false, true);
        x.window(50);
        thereDue("just as wide", x, false, true, true, true);
    }

    /** The rule 0 declares a GROW of 9, which nothing inherits, and which matters to no BLOCK. */
    private static void thereDue(String what, CascadeHouse x, boolean... there) {
        for (int e = 0; e < there.length; e++) {
            valueDue(what, x, e, GROW, there[e] ? 9 : 0, there[e] ? 0 : NONE);
        }
    }

    private static void containersWithoutWidth() {
        CascadeHouse x = new CascadeHouse();
        x.add(0, 1, 0);
        x.add(1, 2, 0);
        x.rule(NONE, 0, 0, AUTHOR, 0, false);
        x.declare(0, GROW, 9);
        x.ask(0, 0);
        thereDue("below no container, even for 0", x, false, false, false);
        x.contain(0, true);
        x.window(0);
        thereDue("0 is at least 0", x, false, true, true);
        x.ask(0, 1);
        thereDue("but not 1", x, false, false, false);
        x.window(1);
        thereDue("1 is at least 1", x, false, true, true);
        plain(x, 1);
        x.declare(1, DISPLAY, NOTHING);
        x.contain(1, true);
        thereDue("without a box it is 0 wide", x, false, true, false);
        x.ask(0, 0);
        thereDue("and that is at least 0", x, false, true, true);
        x.declare(1, WIDTH, 2000);
        x.ask(0, 1);
        thereDue("whatever its WIDTH", x, false, true, false);
        x.ask(0, NONE);
        thereDue("there for all", x, true, true, true);
        withoutABoxIn();
    }

    /** In a parent of each display, and without one, what has no box is 0 wide for what asks, whatever its WIDTH. */
    private static void withoutABoxIn() {
        for (int display = 0; display <= NOTHING; display++) {
            CascadeHouse x = new CascadeHouse();
            x.rule(2, 0, 0, AUTHOR, 0, false);
            x.declare(0, GROW, 9);
            x.ask(0, 1);
            plain(x, 0);
            x.declare(1, DISPLAY, display);
            plain(x, 1);
            x.declare(2, WIDTH, 50);
            x.declare(2, DISPLAY, NOTHING);
            x.add(0, 1, 0);
            x.add(1, 2, 0);
            x.contain(1, true);
            thereDue("a parent of " + display, x, false, false, false);
            x.contain(1, false);
            x.contain(0, true);
            thereDue("a root of " + display, x, false, false, display != NOTHING);
            x.contain(1, true);
            x.declare(2, DISPLAY, 0);
            thereDue("with a box", x, false, false, display != NOTHING);
        }
    }

    // ---- declarations

    private static void atMostOneOfEach() {
        int[] properties = {WIDTH, HEIGHT, MOST, ABOVE, BEHIND, DISPLAY};
        CascadeHouse x = new CascadeHouse();
        plain(x, 0);
        for (int k = 0; k < 6; k++) {
            due("declare", x.declare(0, properties[k], 1), k + 1);
            due("again", x.declare(0, properties[k], 2), k + 1);
            due("another kind in its place", x.say(0, properties[k], INITIAL), k + 1);
            due("and another one", x.refer(0, properties[k], 0, 1), k + 1);
            valueDue("the last one is in force", x, 0, properties[k], 1, 0);
        }
        for (int property : properties) {
            due("each of the six", x.declare(0, property, 2), 6);
            valueDue("in place of it", x, 0, property, 2, 0);
        }
        due("both of two that are there", x.declare(0, MARGIN, 100), 6);
        valueDue("ABOVE", x, 0, ABOVE, 100, 0);
        valueDue("BEHIND", x, 0, BEHIND, 100, 0);
        due("one of them alone", x.declare(0, BEHIND, 0), 6);
        valueDue("ABOVE is as it was", x, 0, ABOVE, 100, 0);
        due("all of them", x.empty(0), 6);
        due("six others", x.declare(0, MARGIN, 1), 2);
    }

    private static void backToTheEnd() {
        CascadeHouse x = new CascadeHouse();
        // from the strongest one: the important ones, the READER's lower layers first; then the AUTHOR's higher ones
        for (int k = 0; k < 12; k++) {
            int origin = k < 3 || k > 8 ? READER : AUTHOR;
            x.rule(0, 0, 0, origin, k < 6 ? k % 3 : 2 - k % 3, k < 6);
            x.declare(k, COLOUR, 10 + k);
            x.declare(k, GROW, 9);
            valueDue("the strongest one", x, 0, COLOUR, 10, 0);
        }
        for (int k = 0; k < 12; k++) {
            x.say(k, COLOUR, BACK);
            x.say(k, GROW, BACK);
            valueDue("back behind " + k, x, 0, COLOUR, k < 11 ? 11 + k : 0, k < 11 ? k + 1 : NONE);
            valueDue("back behind " + k, x, 0, GROW, k < 11 ? 9 : 0, k < 11 ? k + 1 : NONE);
        }
        for (int k = 11; k >= 0; k--) {
            x.declare(k, COLOUR, 50 + k);
            valueDue("the others go back to it", x, 0, COLOUR, 50 + k, k);
        }
    }

    private static void backOverItsGroup() {
        CascadeHouse x = new CascadeHouse();
        x.add(0, 1, 0);
        for (int k = 0; k < 3; k++) {
            plain(x, 1);
            x.declare(k, COLOUR, 1 + k);
            x.declare(k, GROW, 1 + k);
        }
        plain(x, 0);
        x.declare(3, COLOUR, 77);
        x.declare(3, GROW, 7);
        x.say(2, COLOUR, BACK);
        x.say(2, GROW, BACK);
        valueDue("without one UNSET, which is INHERIT", x, 1, COLOUR, 77, 3);
        valueDue("without one UNSET, which is INITIAL", x, 1, GROW, 0, NONE);
        x.declare(2, COLOUR, 3);
        x.say(1, COLOUR, BACK);
        valueDue("one that is not the strongest", x, 1, COLOUR, 3, 2);
        x.rule(1, 0, 0, READER, 0, true);
        x.say(4, COLOUR, BACK);
        valueDue("from one that is important", x, 1, COLOUR, 3, 2);
        x.say(2, COLOUR, BACK);
        valueDue("and back once more", x, 1, COLOUR, 77, 3);
        x.rule(1, 0, 0, READER, 2, false);
        x.declare(5, COLOUR, 30);
        x.ask(5, 0);
        valueDue("not to one that is not there", x, 1, COLOUR, 77, 3);
        x.contain(0, true);
        valueDue("to one that is there", x, 1, COLOUR, 30, 5);
        x.dress(1, 1);
        x.part(5, CHILD, 1, 0, 0);
        valueDue("not to one that does not fit", x, 1, COLOUR, 77, 3);
        x.say(4, COLOUR, INITIAL);
        valueDue("INITIAL does not go back", x, 1, COLOUR, 0, NONE);
    }

    // ---- variables

    private static void ringsOfOneToFour() {
        for (int n = 1; n <= 4; n++) {
            for (int fallback : new int[] {NONE, 0, 2000}) {
                CascadeHouse x = new CascadeHouse();
                plain(x, 0);
                for (int k = 0; k < n; k++) {
                    x.refer(0, VARIABLES + k, (k + 1) % n, fallback);
                }
                for (int k = n; k < 4; k++) {
                    x.refer(0, VARIABLES + k, k - 1, 7);
                }
                x.refer(0, COLOUR, n - 1, 8);
                for (int k = 0; k < n; k++) {
                    valueDue("in a ring of " + n, x, 0, VARIABLES + k, NONE, NONE);
                }
                for (int k = n; k < 4; k++) {
                    valueDue("by its fallback", x, 0, VARIABLES + k, 7, 0);
                }
                valueDue("by its fallback", x, 0, COLOUR, 8, 0);
                x.declare(0, VARIABLES + n - 1, 42);
                for (int k = 0; k < 4; k++) {
                    valueDue("no ring any more", x, 0, VARIABLES + k, 42, 0);
                }
                valueDue("no ring any more", x, 0, COLOUR, 42, 0);
            }
        }
    }

    /** One that needs a ring, but is not in it, takes its fallback, or is as UNSET; so does one that needs that. */
    private static void needingARing() {
        CascadeHouse x = new CascadeHouse();
        x.add(0, 1, 0);
        plain(x, 0);
        x.declare(0, VARIABLES + 2, 30);
        x.declare(0, VARIABLES + 3, 40);
        plain(x, 1);
        x.refer(1, VARIABLES, 1, 5);
        x.refer(1, VARIABLES + 1, 0, 6);
        x.refer(1, VARIABLES + 2, 0, NONE);
        x.refer(1, VARIABLES + 3, 2, 9);
        x.refer(1, SIZE, 1, NONE);
        x.refer(1, WIDTH, 1, NONE);
        valueDue("in the ring", x, 1, VARIABLES, NONE, NONE);
        valueDue("in the ring", x, 1, VARIABLES + 1, NONE, NONE);
        valueDue("UNSET, which is the parent's", x, 1, VARIABLES + 2, 30, 0);
        valueDue("that is something", x, 1, VARIABLES + 3, 30, 1);
        valueDue("UNSET, which is the parent's", x, 1, SIZE, 1, NONE);
        valueDue("UNSET, which is the initial one", x, 1, WIDTH, AUTO, NONE);
        x.empty(0);
        valueDue("UNSET, and the parent's is nothing", x, 1, VARIABLES + 2, NONE, NONE);
        valueDue("that is nothing", x, 1, VARIABLES + 3, 9, 1);
    }

    private static void ringsOnAnElement() {
        CascadeHouse x = new CascadeHouse();
        x.add(0, 1, 0);
        x.add(1, 2, 0);
        for (int tag = 0; tag <= 2; tag++) {
            plain(x, tag);
        }
        x.declare(0, VARIABLES, 10);
        x.refer(0, VARIABLES + 1, 0, NONE);
        x.refer(1, VARIABLES, 1, 3);
        valueDue("the parent's needs the parent's", x, 1, VARIABLES, 10, 1);
        valueDue("no ring over two elements", x, 1, VARIABLES + 1, 10, 0);
        x.refer(1, VARIABLES + 1, 0, 3);
        valueDue("a ring", x, 1, VARIABLES, NONE, NONE);
        valueDue("a ring", x, 1, VARIABLES + 1, NONE, NONE);
        valueDue("not above it", x, 0, VARIABLES + 1, 10, 0);
        valueDue("nothing is inherited", x, 2, VARIABLES, NONE, NONE);
        x.refer(2, VARIABLES, 1, 4);
        valueDue("below it there is no ring", x, 2, VARIABLES, 4, 2);
        x.say(2, VARIABLES + 1, INITIAL);
        valueDue("INITIAL is nothing", x, 2, VARIABLES, 4, 2);
        x.declare(2, VARIABLES + 1, 0);
        valueDue("0 is something", x, 2, VARIABLES, 0, 2);
        x.say(1, VARIABLES + 1, BACK);
        valueDue("BACK is not by VARIABLE", x, 1, VARIABLES, 10, 1);
        x.rule(1, 0, 0, READER, 0, false);
        x.refer(3, VARIABLES + 1, 0, 3);
        valueDue("but what it goes back to is", x, 1, VARIABLES, NONE, NONE);
    }

    private static void inheritedThroughAll() {
        CascadeHouse x = new CascadeHouse();
        for (int k = 1; k < 24; k++) {
            x.add(k - 1, k == 12 ? 2 : 1, 0);
        }
        plain(x, 0);
        x.declare(0, COLOUR, 99);
        x.declare(0, SIZE, 20);
        x.declare(0, VARIABLES + 3, 2000);
        x.declare(0, GROW, 9);
        x.declare(0, WIDTH, 7);
        x.rule(NONE, 1, 0, AUTHOR, 0, false);
        x.say(1, WIDTH, INHERIT);
        for (int k = 1; k < 24; k++) {
            x.dress(k, 1);
        }
        int[] properties = {COLOUR, SIZE, VARIABLES + 3, WIDTH};
        int[] values = {99, 20, 2000, 7};
        for (int k = 0; k < 4; k++) {
            valueDue("from the root to the last one", x, 23, properties[k], values[k], 0);
        }
        valueDue("not inherited", x, 1, GROW, 0, NONE);
        plain(x, 2);
        for (int property : properties) {
            x.say(2, property, INITIAL);
        }
        x.dress(12, 0);
        for (int k = 0; k < 4; k++) {
            valueDue("above the one with INITIAL", x, 11, properties[k], values[k], 0);
            valueDue("the one with INITIAL", x, 12, properties[k], AT_FIRST[properties[k]], NONE);
            valueDue("below it", x, 23, properties[k], AT_FIRST[properties[k]], NONE);
        }
        for (int property : properties) {
            x.say(2, property, UNSET);
        }
        valueDue("UNSET of what is inherited", x, 23, COLOUR, 99, 0);
        valueDue("UNSET of what is not", x, 23, WIDTH, AUTO, NONE);
    }

    // ---- what a call reaches

    private static void nothingReached() {
        CascadeHouse x = new CascadeHouse();
        x.add(0, 1, 0);
        x.add(0, 2, 0);
        due("at least one that came", x.reached(), 1);
        quiet("a rule", x, plain(x, 1));
        quiet("a declaration of what is so already", x, x.declare(0, COLOUR, 0));
        quiet("UNSET", x, x.say(0, SIZE, UNSET));
        quiet("a variable that is nothing", x, x.refer(0, GROW, 0, NONE));
        quiet("a part that keeps it from fitting", x, x.part(0, CHILD, 5, 0, 0));
        quiet("a declaration where nothing fits", x, x.declare(0, COLOUR, 50));
        quiet("an asked width", x, x.ask(0, 0));
        quiet("declarations that go", x, x.empty(0));
        quiet("none that go", x, x.empty(0));
        quiet("classes that no rule has", x, x.dress(1, 255));
        quiet("the same classes", x, x.dress(1, 255));
        quiet("a container that no rule asks for", x, x.contain(1, true) ? 1 : 0);
        quiet("the same window", x, x.window(100));
        quiet("no text in place of none", x, x.text(2, 0));
        due("a text", x.text(2, 5), 1);
        due("it and those around and behind it", x.reached(), 2);
        quiet("more words in the same line", x, x.text(2, 55555));
        plain(x, 2);
        x.declare(1, HEIGHT, 40);
        x.declare(1, WIDTH, 50);
        due("a narrower and higher box, and the root", x.reached(), 1);
        x.declare(1, WIDTH, 6);
        due("narrower", x.reached(), 1);
        quiet("more lines in a box as high as before", x, x.text(2, 55));
        due("two lines", x.lines(2), 2);
        plain(x, 2);
        quiet("another rule, the same value", x, x.declare(2, HEIGHT, 40));
        due("by another rule", x.from(2, HEIGHT), 2);
        quiet("a rule that was hidden", x, x.declare(1, HEIGHT, 41));
    }

    private static void quiet(String what, CascadeHouse x, int answer) {
        due(what + " (" + answer + ") reaches none", x.reached(), 0);
    }

    private static void allReached() {
        CascadeHouse x = new CascadeHouse();
        for (int k = 1; k < 24; k++) {
            x.add(k - 1, 1, 0);
        }
        x.window(99);
        due("a width for all", x.reached(), 24);
        plain(x, 0);
        x.declare(0, COLOUR, 1);
        due("what is inherited by all", x.reached(), 24);
        x.declare(0, WIDTH, 98);
        due("a width that is a value, too", x.reached(), 24);
        x.declare(0, DISPLAY, NOTHING);
        due("no boxes", x.reached(), 24);
        x.window(50);
        due("none had one", x.reached(), 0);
        x.declare(0, SIZE, 2);
        due("values without boxes", x.reached(), 24);
        x.empty(0);
        due("boxes again", x.reached(), 24);
        x.text(23, 1);
        due("all around it are higher", x.reached(), 24);
        x.remove(1);
        due("23 went, and the root is lower", x.reached(), 24);
        x.add(0, 1, 0);
        due("one came", x.reached(), 1);
    }

    private static void cameAndWent() {
        CascadeHouse x = new CascadeHouse();
        plain(x, 1);
        x.declare(0, HEIGHT, 10);
        for (int k = 1; k <= 3; k++) {
            x.add(0, 1, 0);
            due("it, and the root is higher", x.reached(), 2);
        }
        x.add(2, 2, 0);
        due("it alone", x.reached(), 1);
        x.remove(2);
        due("two went, one moved, the root is lower", x.reached(), 4);
        x.remove(3);
        due("one went from behind, the root is lower", x.reached(), 2);
        x.declare(0, DISPLAY, NOTHING);
        due("one box less, the root is lower", x.reached(), 2);
        x.add(1, 1, 0);
        due("one came without a box", x.reached(), 1);
        x.remove(5);
        due("one went without a box", x.reached(), 1);
        x.declare(0, DISPLAY, 0);
        due("one box again, the root is higher", x.reached(), 2);
        Check.throwsDue("no such element", Check.BOUNDS, () -> x.remove(5));
        due("a call that throws is not the last one", x.reached(), 2);
    }

    /** A box is another one by each of its measures alone. */
    private static void otherBoxes() {
        CascadeHouse x = new CascadeHouse();
        x.add(0, 1, 0);
        x.add(0, 2, 0);
        plain(x, 0);
        x.declare(0, HEIGHT, 50);
        plain(x, 1);
        x.declare(1, HEIGHT, 10);
        due("it is higher, the next one is lower down", x.reached(), 2);
        x.declare(1, BEHIND, 10);
        due("a value, and the next one lower down", x.reached(), 2);
        x.declare(0, DISPLAY, ROW);
        due("a value, two narrower, one of them farther up", x.reached(), 3);
        x.text(1, 4);
        due("wider, and the next one farther right", x.reached(), 2);
        x.text(2, 4);
        due("wider and higher, nothing else", x.reached(), 1);
        x.text(2, 5);
        due("wider, nothing else", x.reached(), 1);
        x.dress(2, 1);
        x.rule(NONE, 1, 0, AUTHOR, 0, false);
        x.declare(2, HEIGHT, 1);
        due("a value that the box shows already", x.reached(), 1);
        x.declare(2, TRACKS, 6);
        due("a value that no box shows", x.reached(), 1);
    }

    /** Each property alone, where no box is another one by it. */
    private static void otherValues() {
        int[] values = {100, 0, 100, 7, 7, GRID, 9, 6, 5, 2, 0, 0, 0, 0};
        for (int property = 0; property < 14; property++) {
            CascadeHouse x = new CascadeHouse();
            plain(x, 0);
            x.declare(0, property, values[property]);
            due("another value of " + property, x.reached(), 1);
            x.declare(0, property, values[property]);
            due("the same value of " + property, x.reached(), 0);
            x.add(0, 1, 0);
            x.say(0, property, INITIAL);
            due("what is inherited counts below it", x.reached(), property >= COLOUR ? 2 : 1);
            x.empty(0);
            due("the same without it", x.reached(), 0);
        }
    }

    /** A box of no width and no height is another one than none. */
    private static void noneOrNothing() {
        CascadeHouse x = new CascadeHouse();
        x.window(0);
        x.add(0, 1, 0);
        x.add(1, 2, 0);
        plain(x, 1);
        x.declare(0, DISPLAY, NOTHING);
        due("no box", x.box(2, 2), NONE);
        due("another value, and no box below it", x.reached(), 2);
        x.empty(0);
        due("a box of no width", x.box(2, 2), 0);
        due("another value, and a box again below it", x.reached(), 2);
    }

    /** What has no box has no other one by what is around it, wherever that moves. */
    private static void noBoxMoves() {
        for (int display = 0; display < NOTHING; display++) {
            CascadeHouse x = new CascadeHouse();
            plain(x, 0);
            x.declare(0, DISPLAY, display);
            plain(x, 2);
            x.declare(1, DISPLAY, NOTHING);
            plain(x, 3);
            x.declare(2, DISPLAY, display);
            x.add(0, 1, 0);
            x.add(0, 2, 0);
            x.add(0, 3, 0);
            x.add(2, 0, 0);
            x.add(3, 2, 0);
            x.rule(0, 1, 0, AUTHOR, 0, false);
            x.declare(3, TRACKS, 2);
            x.dress(0, 1);
            x.text(1, 8);
            // a BLOCK: the first child and the root are higher, the last child is lower down
            // a ROW: the first child is wider, too; a GRID: both stand in one row
            due("in a display of " + display, x.reached(), display == GRID ? 2 : 3);
            x.text(0, 8);
            due("all boxes move or are higher", x.reached(), 3);
            x.window(50);
            due("the window", x.reached(), display == ROW ? 1 : 3);
        }
    }

    // ---- 512 calls

    /** The 512th call is answered as any other one. */
    private static void theLastCall() {
        Scene.Call[] lasts = {
            x -> x.elements(), x -> x.reached(), x -> x.add(0, 0, 0), x -> x.remove(1), x -> x.dress(1, 0), x -> x.text(1, 1234),
            x -> x.contain(1, false), x -> x.window(5), x -> x.rule(0, 0, 0, 0, 0, false), x -> x.part(0, 0, 1, 0, 0),
            x -> x.ask(0, 7), x -> x.declare(0, COLOUR, 8), x -> x.say(0, COLOUR, 0), x -> x.refer(0, MARGIN, 0, 1),
            x -> x.empty(0), x -> x.fits(0, 1), x -> x.weight(0), x -> x.value(1, SIZE), x -> x.valueAnew(1, SIZE),
            x -> x.from(1, SIZE), x -> x.box(1, 2), x -> x.boxAnew(1, 3), x -> x.lines(1), x -> x.add(9, 0, 0),
        };
        String[] answers = {
            "2", "0", "170", "1", "3", "4", "true", "90", "1", "2", "-1", "2", "2", "3", "1", "true", "1", "3", "3", "0", "90", "3",
            "1", Check.BOUNDS,
        };
        for (int k = 0; k < lasts.length; k++) {
            CascadeHouse x = new CascadeHouse();
            plain(x, 1);
            x.add(0, 1, 3);
            x.declare(0, SIZE, 3);
            x.text(1, 99);
            x.contain(1, true);
            x.window(90);
            for (int calls = 6; calls < 510; calls += 3) {
                x.remove(x.add(0, 1, 0));
                x.lines(1);
            }
            x.dress(1, 3);
            Check.due("the 512th call, " + k, Scene.tell(lasts[k], x), answers[k]);
        }
    }
}
