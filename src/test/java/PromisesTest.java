/** One function a promise, 1 to 24, and some for the words under "Terms"; all answers are worked out by hand. */
public final class PromisesTest {
    private static final int NONE = CascadeHouse.NONE, AUTO = CascadeHouse.AUTO;
    private static final int WIDTH = 0, HEIGHT = 1, MOST = 2, ABOVE = 3, BEHIND = 4, DISPLAY = 5, GROW = 6, TRACKS = 7,
        COLOUR = 8, SIZE = 9, VARIABLES = 10, MARGIN = 14;
    private static final int ROW = 1, GRID = 2, NOTHING = 3;
    private static final int CHILD = 0, BELOW = 1, NEXT = 2;
    private static final int READER = 0, AUTHOR = 1;
    private static final int INHERIT = 0, INITIAL = 1, UNSET = 2, BACK = 3;

    private static int promise = 0;

    public static void main(String[] args) {
        aNewObject();
        add();
        remove();
        dress();
        text();
        contain();
        window();
        rule();
        part();
        ask();
        declare();
        say();
        refer();
        empty();
        fits();
        weight();
        value();
        valueAnew();
        from();
        box();
        boxAnew();
        lines();
        elements();
        reached();
        strength();
        goingBack();
        rings();
        variables();
        blocks();
        rows();
        grids();
        widths();
        Check.end();
    }

    private static void due(String what, long got, long want) {
        Check.due("promise " + promise + ": " + what, got, want);
    }

    private static void due(String what, boolean got, boolean want) {
        Check.due("promise " + promise + ": " + what, got, want);
    }

    private static void bounds(String what, Check.Call call) {
        Check.throwsDue("promise " + promise + ": " + what, Check.BOUNDS, call);
    }

    private static void argument(String what, Check.Call call) {
        Check.throwsDue("promise " + promise + ": " + what, Check.ARGUMENT, call);
    }

    private static void state(String what, Check.Call call) {
        Check.throwsDue("promise " + promise + ": " + what, Check.STATE, call);
    }

    /** Makes a plain rule of the author for a tag. */
    private static int plain(CascadeHouse x, int tag) {
        return x.rule(tag, 0, 0, AUTHOR, 1, false);
    }

    private static void boxDue(CascadeHouse x, int element, int left, int top, int width, int height) {
        int[] want = {left, top, width, height};
        for (int what = 0; what < 4; what++) {
            due("box(" + element + ", " + what + ")", x.box(element, what), want[what]);
            due("boxAnew(" + element + ", " + what + ")", x.boxAnew(element, what), want[what]);
        }
    }

    private static void valueDue(CascadeHouse x, int element, int property, int value, int from) {
        due("value(" + element + ", " + property + ")", x.value(element, property), value);
        due("valueAnew(" + element + ", " + property + ")", x.valueAnew(element, property), value);
        due("from(" + element + ", " + property + ")", x.from(element, property), from);
    }

    private static void aNewObject() {
        promise = 1;
        CascadeHouse x = new CascadeHouse();
        due("elements()", x.elements(), 1);
        due("reached()", x.reached(), 0);
        int[] first = {AUTO, AUTO, AUTO, 0, 0, 0, 0, 1, 0, 1, NONE, NONE, NONE, NONE};
        for (int property = 0; property < 14; property++) {
            valueDue(x, 0, property, first[property], NONE);
        }
        boxDue(x, 0, 0, 0, 100, 0);
        due("lines(0)", x.lines(0), 0);
        bounds("weight(0)", () -> x.weight(0));
        bounds("value(1, 0)", () -> x.value(1, 0));
        due("rule", x.rule(0, 0, 255, AUTHOR, 0, false), 0);
        due("the root has tag 0 and no classes", x.fits(0, 0), true);
        due("contain(0, false)", x.contain(0, false), false);
    }

    private static void add() {
        promise = 2;
        CascadeHouse x = new CascadeHouse();
        due("add(0, 5, 255)", x.add(0, 5, 255), 1);
        due("add(0, 0, 0)", x.add(0, 0, 0), 2);
        due("add(1, 3, 6)", x.add(1, 3, 6), 3);
        due("rule 0", x.rule(5, 255, 0, AUTHOR, 0, false), 0);
        due("fits(0, 1)", x.fits(0, 1), true);
        due("fits(0, 3)", x.fits(0, 3), false);
        x.rule(NONE, 0, 0, AUTHOR, 0, false);
        x.part(1, NEXT, 5, 0, 0);
        due("behind the last child", x.fits(1, 2), true);
        bounds("add(-1, 9, 0)", () -> x.add(-1, 9, 0));
        bounds("add(4, 0, 0)", () -> x.add(4, 0, 0));
        argument("add(0, 6, 0)", () -> x.add(0, 6, 0));
        argument("add(0, -1, 0)", () -> x.add(0, -1, 0));
        argument("add(0, 0, 256)", () -> x.add(0, 0, 256));
        argument("add(0, 0, -1)", () -> x.add(0, 0, -1));
        due("elements()", x.elements(), 4);
        x.remove(3);
        due("numbers are not given again", x.add(0, 0, 0), 4);
        for (int k = 4; k < 24; k++) {
            due("add " + k, x.add(k, 0, 0), k + 1);
        }
        due("elements()", x.elements(), 24);
        state("the 25th", () -> x.add(0, 0, 0));
        argument("the 25th with a wrong tag", () -> x.add(0, 6, 0));
        bounds("the 25th below none", () -> x.add(99, 6, 0));
        x.remove(24);
        due("one went, one comes", x.add(23, 0, 0), 25);
        state("the 25th again", () -> x.add(0, 0, 0));
    }

    private static void remove() {
        promise = 3;
        CascadeHouse x = new CascadeHouse();
        int a = x.add(0, 1, 0);
        int b = x.add(0, 2, 0);
        int c = x.add(0, 3, 0);
        x.add(b, 4, 0);
        x.add(5 - 1, 4, 0);
        x.add(b, 5, 0);
        x.text(a, 3);
        x.text(b, 3);
        x.text(c, 3);
        due("top of the last", x.box(c, 1), 2);
        x.rule(3, 0, 0, AUTHOR, 0, false);
        x.part(0, NEXT, 1, 0, 0);
        due("not beside the first", x.fits(0, c), false);
        bounds("remove(7)", () -> x.remove(7));
        bounds("remove(-1)", () -> x.remove(-1));
        state("remove(0)", () -> x.remove(0));
        due("remove with all below it", x.remove(b), 4);
        due("elements()", x.elements(), 3);
        due("beside the first", x.fits(0, c), true);
        due("top of the last", x.box(c, 1), 1);
        bounds("remove again", () -> x.remove(b));
        bounds("remove one that was below", () -> x.remove(5));
        due("remove the first child", x.remove(a), 1);
        due("no sibling ahead", x.fits(0, c), false);
        due("remove the last child", x.remove(c), 1);
        due("the root alone", x.box(0, 3), 0);
        int d = x.add(0, 3, 0);
        due("numbers go on", d, 7);
        due("one that is new has no text", x.lines(d), 0);
        due("nor is it a container", x.contain(d, true), false);
        state("remove(0) again", () -> x.remove(0));
    }

    private static void dress() {
        promise = 4;
        CascadeHouse x = new CascadeHouse();
        x.add(0, 1, 9);
        x.rule(NONE, 8, 0, AUTHOR, 0, false);
        x.declare(0, COLOUR, 5);
        valueDue(x, 1, COLOUR, 5, 0);
        due("dress(1, 255)", x.dress(1, 255), 9);
        valueDue(x, 1, COLOUR, 5, 0);
        due("dress(1, 0)", x.dress(1, 0), 255);
        valueDue(x, 1, COLOUR, 0, NONE);
        due("dress(0, 8)", x.dress(0, 8), 0);
        valueDue(x, 1, COLOUR, 5, 0);
        bounds("dress(2, 999)", () -> x.dress(2, 999));
        bounds("dress(-1, 0)", () -> x.dress(-1, 0));
        argument("dress(0, 256)", () -> x.dress(0, 256));
        argument("dress(0, -1)", () -> x.dress(0, -1));
        due("nothing is changed", x.dress(0, 0), 8);
    }

    private static void text() {
        promise = 5;
        CascadeHouse x = new CascadeHouse();
        due("text(0, 12345678)", x.text(0, 12345678), 8);
        due("text(0, 99999999)", x.text(0, 99999999), 8);
        due("lines(0)", x.lines(0), 1);
        due("text(0, 0)", x.text(0, 0), 0);
        due("lines(0)", x.lines(0), 0);
        due("text(0, 7)", x.text(0, 7), 1);
        bounds("text(1, -1)", () -> x.text(1, -1));
        argument("text(0, -1)", () -> x.text(0, -1));
        argument("text(0, 100000000)", () -> x.text(0, 100000000));
        argument("text(0, 111111111)", () -> x.text(0, 111111111));
        argument("text(0, 10)", () -> x.text(0, 10));
        argument("text(0, 101)", () -> x.text(0, 101));
        argument("text(0, 10111111)", () -> x.text(0, 10111111));
        argument("text(0, Integer.MAX_VALUE)", () -> x.text(0, Integer.MAX_VALUE));
        argument("text(0, Integer.MIN_VALUE)", () -> x.text(0, Integer.MIN_VALUE));
        due("nothing is changed", x.lines(0), 1);
    }

    private static void contain() {
        promise = 6;
        CascadeHouse x = new CascadeHouse();
        x.add(0, 1, 0);
        plain(x, NONE);
        x.ask(0, 0);
        x.declare(0, COLOUR, 3);
        valueDue(x, 1, COLOUR, 0, NONE);
        due("contain(0, true)", x.contain(0, true), false);
        valueDue(x, 1, COLOUR, 3, 0);
        valueDue(x, 0, COLOUR, 0, NONE);
        due("contain(0, true)", x.contain(0, true), true);
        due("contain(0, false)", x.contain(0, false), true);
        valueDue(x, 1, COLOUR, 0, NONE);
        due("contain(1, true)", x.contain(1, true), false);
        valueDue(x, 1, COLOUR, 0, NONE);
        bounds("contain(2, true)", () -> x.contain(2, true));
        bounds("contain(-1, true)", () -> x.contain(-1, true));
        due("contain(1, true)", x.contain(1, true), true);
    }

    private static void window() {
        promise = 7;
        CascadeHouse x = new CascadeHouse();
        x.add(0, 1, 0);
        due("window(2000)", x.window(2000), 100);
        boxDue(x, 1, 0, 0, 2000, 0);
        due("window(0)", x.window(0), 2000);
        boxDue(x, 0, 0, 0, 0, 0);
        argument("window(-1)", () -> x.window(-1));
        argument("window(2001)", () -> x.window(2001));
        due("window(1)", x.window(1), 0);
    }

    private static void rule() {
        promise = 8;
        CascadeHouse x = new CascadeHouse();
        x.add(0, 5, 255);
        due("rule", x.rule(5, 255, 0, READER, 2, true), 0);
        due("weight(0)", x.weight(0), 81);
        due("rule", x.rule(NONE, 0, 255, AUTHOR, 0, false), 1);
        due("fits(0, 1)", x.fits(0, 1), true);
        due("fits(1, 1)", x.fits(1, 1), false);
        due("fits(1, 0)", x.fits(1, 0), true);
        due("without declarations", x.empty(0), 0);
        argument("tag 6", () -> x.rule(6, 0, 0, 0, 0, false));
        argument("tag AUTO", () -> x.rule(AUTO, 0, 0, 0, 0, false));
        argument("has 256", () -> x.rule(0, 256, 0, 0, 0, false));
        argument("has -1", () -> x.rule(0, -1, 0, 0, 0, false));
        argument("lacks 256", () -> x.rule(0, 0, 256, 0, 0, false));
        argument("lacks -1", () -> x.rule(0, 0, -1, 0, 0, false));
        argument("origin 2", () -> x.rule(0, 0, 0, 2, 0, false));
        argument("origin -1", () -> x.rule(0, 0, 0, -1, 0, false));
        argument("layer 3", () -> x.rule(0, 0, 0, 0, 3, false));
        argument("layer -1", () -> x.rule(0, 0, 0, 0, -1, false));
        for (int k = 2; k < 16; k++) {
            due("rule " + k, x.rule(0, 0, 0, k % 2, k % 3, k % 5 == 0), k);
        }
        state("the 17th", () -> x.rule(0, 0, 0, 0, 0, false));
        argument("the 17th with layer 3", () -> x.rule(0, 0, 0, 0, 3, false));
        bounds("weight(16)", () -> x.weight(16));
    }

    private static void part() {
        promise = 9;
        CascadeHouse x = new CascadeHouse();
        plain(x, 1);
        due("part", x.part(0, CHILD, NONE, 0, 0), 1);
        bounds("no such rule", () -> x.part(1, 9, 9, 9, 9));
        bounds("no such rule", () -> x.part(-1, 0, 0, 0, 0));
        argument("way 3", () -> x.part(0, 3, 0, 0, 0));
        argument("way -1", () -> x.part(0, -1, 0, 0, 0));
        argument("tag 6", () -> x.part(0, 0, 6, 0, 0));
        argument("tag AUTO", () -> x.part(0, 0, AUTO, 0, 0));
        argument("has 256", () -> x.part(0, 0, 0, 256, 0));
        argument("has -1", () -> x.part(0, 0, 0, -1, 0));
        argument("lacks 256", () -> x.part(0, 0, 0, 0, 256));
        argument("lacks -1", () -> x.part(0, 0, 0, 0, -1));
        due("the third part", x.part(0, NEXT, 5, 255, 255), 162);
        state("the fourth part", () -> x.part(0, 0, 0, 0, 0));
        argument("the fourth part with way 3", () -> x.part(0, 3, 0, 0, 0));
        due("weight(0)", x.weight(0), 162);
    }

    private static void ask() {
        promise = 10;
        CascadeHouse x = new CascadeHouse();
        x.add(0, 1, 0);
        plain(x, 1);
        x.declare(0, COLOUR, 4);
        due("ask(0, 0)", x.ask(0, 0), NONE);
        valueDue(x, 1, COLOUR, 0, NONE);
        x.contain(0, true);
        due("ask(0, 100)", x.ask(0, 100), 0);
        valueDue(x, 1, COLOUR, 4, 0);
        due("ask(0, 101)", x.ask(0, 101), 100);
        valueDue(x, 1, COLOUR, 0, NONE);
        due("fits, whether it asks or not", x.fits(0, 1), true);
        due("ask(0, 2000)", x.ask(0, 2000), 101);
        due("ask(0, NONE)", x.ask(0, NONE), 2000);
        valueDue(x, 1, COLOUR, 4, 0);
        due("ask(0, NONE)", x.ask(0, NONE), NONE);
        bounds("ask(1, 5000)", () -> x.ask(1, 5000));
        bounds("ask(-1, 0)", () -> x.ask(-1, 0));
        argument("ask(0, 2001)", () -> x.ask(0, 2001));
        argument("ask(0, AUTO)", () -> x.ask(0, AUTO));
        due("nothing is changed", x.ask(0, NONE), NONE);
    }

    private static void declare() {
        promise = 11;
        int[] least = {0, 0, 0, 0, 0, 0, 0, 1, 0, 1, 0, 0, 0, 0, 0};
        int[] greatest = {2000, 2000, 2000, 100, 100, 3, 9, 6, 99, 20, 2000, 2000, 2000, 2000, 100};
        for (int property = 0; property <= MARGIN; property++) {
            int p = property;
            int one = property == MARGIN ? BEHIND : property;
            CascadeHouse x = new CascadeHouse();
            plain(x, 0);
            due("first", x.declare(0, p, greatest[p]), p == MARGIN ? 2 : 1);
            valueDue(x, 0, one, greatest[p], 0);
            due("in place of it", x.declare(0, p, least[p]), p == MARGIN ? 2 : 1);
            valueDue(x, 0, one, least[p], 0);
            argument("declare " + p + " above", () -> x.declare(0, p, greatest[p] + 1));
            argument("declare " + p + " below", () -> x.declare(0, p, least[p] - 1));
            argument("declare " + p + " far below", () -> x.declare(0, p, Integer.MIN_VALUE));
            if (p <= MOST) {
                due("AUTO", x.declare(0, p, AUTO), 1);
                valueDue(x, 0, p, AUTO, 0);
            } else {
                argument("declare " + p + " AUTO", () -> x.declare(0, p, AUTO));
                valueDue(x, 0, one, least[p], 0);
            }
        }
        CascadeHouse x = new CascadeHouse();
        plain(x, 0);
        bounds("no such rule", () -> x.declare(1, 0, 9999));
        bounds("no such rule", () -> x.declare(-1, 0, 0));
        bounds("no such property", () -> x.declare(0, 15, 9999));
        bounds("no such property", () -> x.declare(0, -1, 0));
        due("MARGIN", x.declare(0, MARGIN, 7), 2);
        due("ABOVE", x.declare(0, ABOVE, 8), 2);
        valueDue(x, 0, ABOVE, 8, 0);
        valueDue(x, 0, BEHIND, 7, 0);
        due("MARGIN", x.declare(0, MARGIN, 9), 2);
        valueDue(x, 0, ABOVE, 9, 0);
        for (int k = 0; k < 4; k++) {
            due("variable " + k, x.declare(0, VARIABLES + k, k), 3 + k);
        }
        state("the 7th", () -> x.declare(0, SIZE, 2));
        argument("the 7th out of range", () -> x.declare(0, SIZE, 21));
        due("one of the six", x.declare(0, MARGIN, 1), 6);
        x.empty(0);
        for (int property = 5; property < 10; property++) {
            x.declare(0, property, 1);
        }
        state("MARGIN as the 6th and 7th", () -> x.declare(0, MARGIN, 5));
        valueDue(x, 0, ABOVE, 0, NONE);
        due("the 6th", x.declare(0, BEHIND, 5), 6);
        state("MARGIN as the 7th", () -> x.declare(0, MARGIN, 6));
        valueDue(x, 0, BEHIND, 5, 0);
    }

    private static void say() {
        promise = 12;
        CascadeHouse x = new CascadeHouse();
        x.add(0, 1, 0);
        plain(x, 0);
        plain(x, 1);
        x.declare(0, WIDTH, 40);
        x.declare(0, COLOUR, 6);
        x.declare(0, MARGIN, 9);
        x.declare(0, ABOVE, 8);
        due("INHERIT", x.say(1, WIDTH, INHERIT), 1);
        valueDue(x, 1, WIDTH, 40, 0);
        due("INITIAL", x.say(1, COLOUR, INITIAL), 2);
        valueDue(x, 1, COLOUR, 0, NONE);
        due("UNSET of what is inherited", x.say(1, COLOUR, UNSET), 2);
        valueDue(x, 1, COLOUR, 6, 0);
        due("UNSET of what is not", x.say(1, WIDTH, UNSET), 2);
        valueDue(x, 1, WIDTH, AUTO, NONE);
        due("MARGIN", x.say(1, MARGIN, INHERIT), 4);
        valueDue(x, 1, ABOVE, 8, 0);
        valueDue(x, 1, BEHIND, 9, 0);
        due("BACK without another", x.say(1, COLOUR, BACK), 4);
        valueDue(x, 1, COLOUR, 6, 0);
        due("INHERIT of the root", x.say(0, COLOUR, INHERIT), 4);
        valueDue(x, 0, COLOUR, 0, NONE);
        valueDue(x, 1, COLOUR, 0, NONE);
        bounds("no such rule", () -> x.say(2, 0, 9));
        bounds("no such property", () -> x.say(0, 15, 9));
        bounds("no such property", () -> x.say(0, -1, 0));
        argument("word 4", () -> x.say(0, 0, 4));
        argument("word -1", () -> x.say(0, 0, -1));
        due("the 5th", x.say(0, SIZE, UNSET), 5);
        due("the 6th", x.say(0, GROW, UNSET), 6);
        state("the 7th", () -> x.say(0, TRACKS, UNSET));
        argument("the 7th, word 4", () -> x.say(0, TRACKS, 4));
        due("in place of one", x.say(0, WIDTH, UNSET), 6);
        valueDue(x, 0, WIDTH, AUTO, NONE);
    }

    private static void refer() {
        promise = 13;
        CascadeHouse x = new CascadeHouse();
        x.add(0, 1, 0);
        plain(x, 0);
        plain(x, 1);
        x.declare(0, VARIABLES, 20);
        due("SIZE", x.refer(1, SIZE, 0, NONE), 1);
        valueDue(x, 1, SIZE, 20, 1);
        due("MARGIN", x.refer(1, MARGIN, 3, 100), 3);
        valueDue(x, 1, ABOVE, 100, 1);
        valueDue(x, 1, BEHIND, 100, 1);
        due("MARGIN again", x.refer(1, MARGIN, 0, 0), 3);
        valueDue(x, 1, BEHIND, 20, 1);
        bounds("no such rule", () -> x.refer(2, 0, 9, 0));
        bounds("no such property", () -> x.refer(0, 15, 9, 0));
        bounds("no such property", () -> x.refer(0, -1, 0, 0));
        argument("variable 4", () -> x.refer(0, 0, 4, 0));
        argument("variable -1", () -> x.refer(0, 0, -1, 0));
        argument("fallback AUTO", () -> x.refer(0, WIDTH, 0, AUTO));
        argument("fallback 2001", () -> x.refer(0, WIDTH, 0, 2001));
        argument("fallback 0 of TRACKS", () -> x.refer(0, TRACKS, 0, 0));
        argument("fallback 7 of TRACKS", () -> x.refer(0, TRACKS, 0, 7));
        argument("fallback 21 of SIZE", () -> x.refer(0, SIZE, 0, 21));
        argument("fallback 101 of MARGIN", () -> x.refer(0, MARGIN, 0, 101));
        argument("fallback 2001 of a variable", () -> x.refer(0, VARIABLES, 1, 2001));
        x.refer(1, COLOUR, 0, NONE);
        x.refer(1, WIDTH, 0, NONE);
        due("the 6th", x.refer(1, HEIGHT, 0, 5), 6);
        state("the 7th", () -> x.refer(1, TRACKS, 0, 5));
        argument("the 7th, variable 4", () -> x.refer(1, TRACKS, 4, 5));
        due("in place of one", x.refer(1, HEIGHT, 1, 5), 6);
        valueDue(x, 1, HEIGHT, 5, 1);
    }

    private static void empty() {
        promise = 14;
        CascadeHouse x = new CascadeHouse();
        plain(x, 0);
        due("nothing yet", x.empty(0), 0);
        x.declare(0, MARGIN, 5);
        x.declare(0, COLOUR, 5);
        x.ask(0, NONE);
        due("empty(0)", x.empty(0), 3);
        valueDue(x, 0, COLOUR, 0, NONE);
        valueDue(x, 0, ABOVE, 0, NONE);
        due("empty again", x.empty(0), 0);
        due("it fits as before", x.fits(0, 0), true);
        due("it counts anew", x.declare(0, SIZE, 2), 1);
        bounds("empty(1)", () -> x.empty(1));
        bounds("empty(-1)", () -> x.empty(-1));
    }

    private static void fits() {
        promise = 15;
        CascadeHouse x = new CascadeHouse();
        int a = x.add(0, 1, 1);
        int b = x.add(a, 2, 2);
        int c = x.add(b, 1, 3);
        int d = x.add(b, 2, 4);
        int e = x.add(d, 3, 0);
        plain(x, 3);
        due("tag", x.fits(0, e), true);
        due("another tag", x.fits(0, d), false);
        x.part(0, BELOW, 2, 0, 0);
        due("below a near one or a far one", x.fits(0, e), true);
        x.part(0, CHILD, 1, 0, 0);
        due("the near one does not go on, the far one does", x.fits(0, e), true);
        x.rule(NONE, 3, 4, READER, 0, false);
        due("all of them, none of those", x.fits(1, c), true);
        due("not all", x.fits(1, a), false);
        x.dress(c, 7);
        due("one of those", x.fits(1, c), false);
        x.rule(2, 0, 0, READER, 0, true);
        x.part(2, NEXT, 1, 0, 0);
        due("the sibling right ahead", x.fits(2, d), true);
        due("no sibling ahead", x.fits(2, b), false);
        x.part(2, CHILD, 2, 2, 0);
        due("whose parent", x.fits(2, d), true);
        x.rule(NONE, 0, 0, AUTHOR, 0, false);
        x.part(3, CHILD, NONE, 0, 0);
        due("the root is no child", x.fits(3, 0), false);
        due("its child is", x.fits(3, a), true);
        x.part(3, NEXT, NONE, 0, 0);
        due("nor has it a sibling", x.fits(3, a), false);
        due("child of one that has a sibling ahead", x.fits(3, e), true);
        x.add(b, 5, 0);
        x.rule(5, 0, 0, AUTHOR, 0, false);
        x.part(4, NEXT, 1, 0, 0);
        due("right ahead, not farther", x.fits(4, 6), false);
        x.rule(NONE, 1, 1, AUTHOR, 0, false);
        due("what is to be there and not", x.fits(5, a), false);
        bounds("fits(6, 0)", () -> x.fits(6, 0));
        bounds("fits(-1, 0)", () -> x.fits(-1, 0));
        bounds("fits(0, 7)", () -> x.fits(0, 7));
        bounds("fits(0, -1)", () -> x.fits(0, -1));
    }

    private static void weight() {
        promise = 16;
        CascadeHouse x = new CascadeHouse();
        x.rule(NONE, 0, 0, AUTHOR, 0, false);
        x.rule(0, 3, 0, AUTHOR, 2, true);
        x.rule(5, 128, 7, READER, 0, false);
        due("nothing", x.weight(0), 0);
        due("a tag and two classes", x.weight(1), 21);
        due("what is not counts, too", x.weight(2), 41);
        x.part(0, BELOW, 2, 1, 2);
        due("all parts", x.weight(0), 21);
        x.ask(0, 50);
        x.declare(0, SIZE, 3);
        due("nothing else", x.weight(0), 21);
        bounds("weight(3)", () -> x.weight(3));
        bounds("weight(-1)", () -> x.weight(-1));
    }

    private static void value() {
        promise = 17;
        CascadeHouse x = new CascadeHouse();
        x.add(0, 1, 0);
        x.add(1, 1, 0);
        plain(x, 0);
        x.declare(0, WIDTH, 30);
        x.declare(0, COLOUR, 7);
        x.declare(0, SIZE, 2);
        x.declare(0, VARIABLES + 3, 0);
        int[] below = {AUTO, AUTO, AUTO, 0, 0, 0, 0, 1, 7, 2, NONE, NONE, NONE, 0};
        for (int property = 0; property < 14; property++) {
            due("value(2, " + property + ")", x.value(2, property), below[property]);
        }
        due("value(0, WIDTH)", x.value(0, WIDTH), 30);
        bounds("value(3, 0)", () -> x.value(3, 0));
        bounds("value(-1, 0)", () -> x.value(-1, 0));
        bounds("value(0, 14)", () -> x.value(0, MARGIN));
        bounds("value(0, -1)", () -> x.value(0, -1));
    }

    private static void valueAnew() {
        promise = 18;
        CascadeHouse x = new CascadeHouse();
        x.add(0, 1, 0);
        plain(x, 0);
        x.declare(0, COLOUR, 7);
        due("valueAnew(1, COLOUR)", x.valueAnew(1, COLOUR), 7);
        due("valueAnew(1, VARIABLES)", x.valueAnew(1, VARIABLES), NONE);
        due("valueAnew(1, WIDTH)", x.valueAnew(1, WIDTH), AUTO);
        due("it changes nothing", x.reached(), 2);
        due("it changes nothing", x.value(1, COLOUR), 7);
        bounds("valueAnew(2, 0)", () -> x.valueAnew(2, 0));
        bounds("valueAnew(-1, 0)", () -> x.valueAnew(-1, 0));
        bounds("valueAnew(0, 14)", () -> x.valueAnew(0, MARGIN));
        bounds("valueAnew(0, -1)", () -> x.valueAnew(0, -1));
    }

    private static void from() {
        promise = 19;
        CascadeHouse x = new CascadeHouse();
        x.add(0, 1, 0);
        x.add(1, 2, 0);
        plain(x, 0);
        plain(x, 1);
        plain(x, 2);
        x.declare(0, COLOUR, 0);
        due("a number, though it is the initial one", x.from(0, COLOUR), 0);
        due("inherited from farther above", x.from(2, COLOUR), 0);
        x.say(2, COLOUR, INHERIT);
        due("INHERIT: the one of the parent", x.from(2, COLOUR), 0);
        x.say(2, COLOUR, INITIAL);
        due("INITIAL", x.from(2, COLOUR), NONE);
        x.refer(2, COLOUR, 0, 3);
        due("by its fallback", x.from(2, COLOUR), 2);
        x.refer(2, COLOUR, 0, NONE);
        due("by UNSET the one of the parent", x.from(2, COLOUR), 0);
        x.declare(1, VARIABLES, 50);
        due("the variable's rule", x.from(2, VARIABLES), 1);
        due("by VARIABLE the rule that says so", x.from(2, COLOUR), 2);
        x.refer(2, WIDTH, 1, NONE);
        due("by UNSET, not inherited", x.from(2, WIDTH), NONE);
        due("AUTO", x.declare(2, HEIGHT, AUTO) + x.from(2, HEIGHT), 5);
        int low = x.rule(2, 0, 0, AUTHOR, 0, false);
        x.declare(low, COLOUR, 4);
        x.say(2, COLOUR, BACK);
        due("BACK's other one", x.from(2, COLOUR), low);
        x.refer(1, VARIABLES, 0, 9);
        due("a ring of one is nothing", x.from(1, VARIABLES), NONE);
        due("nor has one below it", x.from(2, VARIABLES), NONE);
        bounds("from(3, 0)", () -> x.from(3, 0));
        bounds("from(-1, 0)", () -> x.from(-1, 0));
        bounds("from(0, 14)", () -> x.from(0, MARGIN));
        bounds("from(0, -1)", () -> x.from(0, -1));
    }

    private static void box() {
        promise = 20;
        CascadeHouse x = new CascadeHouse();
        x.add(0, 1, 0);
        x.add(1, 2, 0);
        plain(x, 0);
        plain(x, 2);
        x.declare(0, DISPLAY, NOTHING);
        boxDue(x, 0, NONE, NONE, NONE, NONE);
        boxDue(x, 2, NONE, NONE, NONE, NONE);
        x.declare(0, DISPLAY, ROW);
        x.declare(0, HEIGHT, 0);
        x.declare(1, HEIGHT, 2000);
        x.declare(1, MARGIN, 3);
        boxDue(x, 2, 0, 3, 0, 2000);
        boxDue(x, 1, 0, 0, 0, 2006);
        boxDue(x, 0, 0, 0, 100, 0);
        bounds("box(3, 9)", () -> x.box(3, 9));
        bounds("box(-1, 0)", () -> x.box(-1, 0));
        argument("box(0, 4)", () -> x.box(0, 4));
        argument("box(0, -1)", () -> x.box(0, -1));
        x.declare(1, DISPLAY, NOTHING);
        argument("box(2, 4) without a box", () -> x.box(2, 4));
        due("box(2, 0)", x.box(2, 0), NONE);
    }

    private static void boxAnew() {
        promise = 21;
        CascadeHouse x = new CascadeHouse();
        x.add(0, 1, 0);
        x.text(1, 123);
        due("boxAnew(1, 2)", x.boxAnew(1, 2), 100);
        due("boxAnew(1, 3)", x.boxAnew(1, 3), 1);
        due("it changes nothing", x.reached(), 2);
        due("it changes nothing", x.box(1, 3), 1);
        bounds("boxAnew(2, 9)", () -> x.boxAnew(2, 9));
        bounds("boxAnew(-1, 0)", () -> x.boxAnew(-1, 0));
        argument("boxAnew(0, 4)", () -> x.boxAnew(0, 4));
        argument("boxAnew(0, -1)", () -> x.boxAnew(0, -1));
    }

    private static void lines() {
        promise = 22;
        CascadeHouse x = new CascadeHouse();
        plain(x, 0);
        x.declare(0, SIZE, 2);
        x.text(0, 321);
        x.window(16);
        due("1 and 2 and 3: 2 + 2 + 4 + 2 + 6 = 16", x.lines(0), 1);
        x.window(15);
        due("one less", x.lines(0), 2);
        boxDue(x, 0, 0, 0, 15, 4);
        x.window(7);
        due("2 + 2 + 4 > 7", x.lines(0), 3);
        x.window(0);
        due("each word in its own line", x.lines(0), 3);
        boxDue(x, 0, 0, 0, 0, 6);
        x.window(14);
        x.text(0, 123);
        due("3, 2 in 12; then 1 would need 16", x.lines(0), 2);
        x.declare(0, HEIGHT, 1);
        due("HEIGHT does not matter", x.lines(0), 2);
        x.declare(0, DISPLAY, NOTHING);
        due("no box", x.lines(0), 0);
        bounds("lines(1)", () -> x.lines(1));
        bounds("lines(-1)", () -> x.lines(-1));
    }

    private static void elements() {
        promise = 23;
        CascadeHouse x = new CascadeHouse();
        due("elements()", x.elements(), 1);
        x.add(0, 0, 0);
        x.add(1, 0, 0);
        x.add(0, 0, 0);
        due("elements()", x.elements(), 4);
        x.remove(1);
        due("elements()", x.elements(), 2);
        argument("add(0, 9, 0)", () -> x.add(0, 9, 0));
        due("elements()", x.elements(), 2);
    }

    private static void reached() {
        promise = 24;
        CascadeHouse x = new CascadeHouse();
        due("at first", x.reached(), 0);
        x.add(0, 1, 0);
        due("that which came", x.reached(), 1);
        x.add(1, 2, 0);
        x.add(0, 3, 0);
        x.text(2, 5);
        due("its box, those around it and that behind it", x.reached(), 4);
        x.text(2, 4);
        due("as wide and as high as before", x.reached(), 0);
        x.window(50);
        due("window", x.reached(), 4);
        state("remove(0)", () -> x.remove(0));
        bounds("add(9, 0, 0)", () -> x.add(9, 0, 0));
        argument("window(-1)", () -> x.window(-1));
        due("calls that throw do not count", x.reached(), 4);
        x.value(2, COLOUR);
        x.valueAnew(2, COLOUR);
        x.boxAnew(2, 2);
        x.lines(2);
        x.elements();
        x.fits(plain(x, 1), 1);
        due("rule", x.reached(), 0);
        x.declare(0, COLOUR, 9);
        due("COLOUR and what inherits it", x.reached(), 2);
        x.weight(0);
        due("calls that ask do not count", x.reached(), 2);
        x.declare(0, COLOUR, 9);
        due("the same again", x.reached(), 0);
        x.part(0, CHILD, 5, 0, 0);
        due("part", x.reached(), 2);
        x.contain(0, true);
        due("contain", x.reached(), 0);
        plain(x, 3);
        x.declare(1, DISPLAY, NOTHING);
        due("its value and its box", x.reached(), 1);
        x.add(3, 1, 0);
        due("one without a box came", x.reached(), 1);
        x.empty(1);
        due("one again, and that below it", x.reached(), 2);
        x.remove(1);
        due("those that went, the root and that behind", x.reached(), 5);
        due("nothing is declared", x.say(1, COLOUR, UNSET), 1);
        due("another rule, the same value", x.reached(), 0);
        x.ask(1, 10);
        due("ask", x.reached(), 0);
        x.dress(3, 1);
        due("dress", x.reached(), 0);
        x.refer(1, WIDTH, 0, 20);
        due("refer", x.reached(), 2);
    }

    private static void strength() {
        promise = 0;
        // from the strongest one to the weakest one: importance, origin, layer, weight
        int[][] order = {
            {READER, 0, 1}, {READER, 1, 1}, {READER, 2, 1}, {AUTHOR, 0, 1}, {AUTHOR, 1, 1}, {AUTHOR, 2, 1},
            {AUTHOR, 2, 0}, {AUTHOR, 1, 0}, {AUTHOR, 0, 0}, {READER, 2, 0}, {READER, 1, 0}, {READER, 0, 0},
        };
        for (int one = 0; one < order.length; one++) {
            for (int other = 0; other < order.length; other++) {
                CascadeHouse x = new CascadeHouse();
                x.rule(0, 0, 2, order[one][0], order[one][1], order[one][2] == 1);
                x.rule(0, 0, 1, order[other][0], order[other][1], order[other][2] == 1);
                x.declare(0, COLOUR, 1);
                x.declare(1, COLOUR, 2);
                valueDue(x, 0, COLOUR, one < other ? 1 : 2, one < other ? 0 : 1);
                x.part(one < other ? 1 : 0, CHILD, 0, 255, 255);
                x.rule(NONE, 0, 0, order[one][0], order[one][1], order[one][2] == 1);
                x.declare(2, COLOUR, 3);
                int due = one <= other ? one < other ? 1 : 2 : 2;
                int lone = one < other ? 0 : 1;
                valueDue(x, 0, COLOUR, one > other ? 2 : one == other ? 2 : due, lone);
            }
        }
    }

    private static void goingBack() {
        promise = 0;
        CascadeHouse x = new CascadeHouse();
        x.rule(0, 0, 0, AUTHOR, 2, false);
        x.rule(NONE, 0, 0, AUTHOR, 2, false);
        x.rule(NONE, 0, 0, AUTHOR, 1, false);
        x.rule(NONE, 0, 0, READER, 2, false);
        for (int k = 0; k < 4; k++) {
            x.declare(k, SIZE, k + 2);
        }
        valueDue(x, 0, SIZE, 2, 0);
        x.say(0, SIZE, BACK);
        valueDue(x, 0, SIZE, 4, 2);
        x.say(2, SIZE, BACK);
        valueDue(x, 0, SIZE, 5, 3);
        x.say(3, SIZE, INHERIT);
        valueDue(x, 0, SIZE, 1, NONE);
        x.say(3, SIZE, BACK);
        valueDue(x, 0, SIZE, 1, NONE);
        x.rule(NONE, 0, 0, READER, 2, true);
        x.say(4, SIZE, BACK);
        x.declare(0, SIZE, 9);
        valueDue(x, 0, SIZE, 9, 0);
        x.add(0, 1, 0);
        x.declare(1, SIZE, 8);
        x.say(1, COLOUR, BACK);
        valueDue(x, 1, SIZE, 8, 1);
        x.part(1, CHILD, NONE, 0, 0);
        x.ask(1, 0);
        valueDue(x, 1, SIZE, 9, 0);
        x.contain(0, true);
        valueDue(x, 1, SIZE, 8, 1);
    }

    private static void rings() {
        promise = 0;
        CascadeHouse x = new CascadeHouse();
        x.add(0, 1, 0);
        plain(x, 0);
        plain(x, 1);
        for (int k = 0; k < 4; k++) {
            x.declare(0, VARIABLES + k, 20 + k);
        }
        x.refer(1, VARIABLES, 1, 5);
        x.refer(1, VARIABLES + 1, 2, 6);
        x.refer(1, VARIABLES + 2, 1, 7);
        x.refer(1, VARIABLES + 3, 2, NONE);
        valueDue(x, 1, VARIABLES, 5, 1);
        valueDue(x, 1, VARIABLES + 1, NONE, NONE);
        valueDue(x, 1, VARIABLES + 2, NONE, NONE);
        valueDue(x, 1, VARIABLES + 3, 23, 0);
        x.refer(1, COLOUR, 1, 44);
        valueDue(x, 1, COLOUR, 44, 1);
        x.say(1, VARIABLES + 2, INHERIT);
        valueDue(x, 1, VARIABLES, 22, 1);
        valueDue(x, 1, VARIABLES + 3, 22, 1);
        valueDue(x, 1, COLOUR, 22, 1);
        // a ring that only a rule that is not there would close
        x.refer(0, VARIABLES, 0, 3);
        valueDue(x, 0, VARIABLES, NONE, NONE);
        x.refer(0, VARIABLES, 1, 3);
        x.refer(0, VARIABLES + 1, 2, 3);
        x.refer(0, VARIABLES + 2, 3, 3);
        x.refer(0, VARIABLES + 3, 0, 3);
        for (int k = 0; k < 4; k++) {
            valueDue(x, 0, VARIABLES + k, NONE, NONE);
        }
        x.rule(0, 0, 0, READER, 0, true);
        x.declare(2, VARIABLES + 3, 77);
        for (int k = 0; k < 4; k++) {
            valueDue(x, 0, VARIABLES + k, 77, k == 3 ? 2 : 0);
        }
        x.say(2, VARIABLES + 3, BACK);
        for (int k = 0; k < 4; k++) {
            valueDue(x, 0, VARIABLES + k, NONE, NONE);
        }
    }

    private static void variables() {
        promise = 0;
        CascadeHouse x = new CascadeHouse();
        plain(x, 0);
        x.declare(0, VARIABLES, 100);
        x.refer(0, COLOUR, 0, 12);
        valueDue(x, 0, COLOUR, 12, 0);
        x.declare(0, VARIABLES, 99);
        valueDue(x, 0, COLOUR, 99, 0);
        x.refer(0, TRACKS, 0, NONE);
        valueDue(x, 0, TRACKS, 1, NONE);
        x.declare(0, VARIABLES, 0);
        valueDue(x, 0, TRACKS, 1, NONE);
        valueDue(x, 0, COLOUR, 0, 0);
        x.refer(0, DISPLAY, 0, 3);
        x.declare(0, VARIABLES, 2);
        valueDue(x, 0, DISPLAY, GRID, 0);
        valueDue(x, 0, TRACKS, 2, 0);
        x.declare(0, VARIABLES, 4);
        valueDue(x, 0, DISPLAY, NOTHING, 0);
    }

    private static void blocks() {
        promise = 0;
        CascadeHouse x = new CascadeHouse();
        plain(x, 0);
        for (int tag = 1; tag <= 3; tag++) {
            x.add(0, tag, 0);
            plain(x, tag);
            x.declare(tag, HEIGHT, 10 * tag);
        }
        x.text(0, 11);
        x.declare(1, ABOVE, 5);
        x.declare(1, BEHIND, 7);
        x.declare(2, ABOVE, 4);
        x.declare(2, BEHIND, 3);
        x.declare(3, MARGIN, 6);
        x.declare(2, WIDTH, 140);
        x.declare(3, MOST, 60);
        boxDue(x, 1, 0, 6, 100, 10);
        boxDue(x, 2, 0, 23, 140, 20);
        boxDue(x, 3, 0, 49, 60, 30);
        boxDue(x, 0, 0, 0, 100, 85);
        x.declare(2, DISPLAY, NOTHING);
        boxDue(x, 3, 0, 23, 60, 30);
        boxDue(x, 0, 0, 0, 100, 59);
        x.declare(0, MARGIN, 50);
        boxDue(x, 0, 0, 0, 100, 59);
    }

    private static void rows() {
        promise = 0;
        CascadeHouse x = new CascadeHouse();
        plain(x, 0);
        x.declare(0, DISPLAY, ROW);
        for (int tag = 1; tag <= 3; tag++) {
            x.add(0, tag, 0);
            plain(x, tag);
            x.text(tag, 12 * tag);
        }
        x.text(0, 4);
        boxDue(x, 1, 0, 1, 2, 2);
        boxDue(x, 2, 2, 1, 4, 2);
        boxDue(x, 3, 6, 1, 6, 2);
        boxDue(x, 0, 0, 0, 100, 3);
        x.contain(2, true);
        boxDue(x, 2, 2, 1, 0, 2);
        x.declare(1, GROW, 2);
        x.declare(2, GROW, 1);
        x.declare(3, MARGIN, 9);
        // 92 is left: 61 and 30, and 1 more for the first one
        boxDue(x, 1, 0, 1, 64, 1);
        boxDue(x, 2, 64, 1, 30, 1);
        boxDue(x, 3, 94, 10, 6, 2);
        boxDue(x, 0, 0, 0, 100, 21);
        x.declare(2, MOST, 29);
        boxDue(x, 1, 0, 1, 65, 1);
        boxDue(x, 2, 65, 1, 29, 1);
        x.declare(1, WIDTH, 120);
        boxDue(x, 1, 0, 1, 120, 1);
        boxDue(x, 2, 120, 1, 0, 2);
        x.declare(1, MOST, 50);
        // the width of 120 is at most 50, so 44 is left; the first one is frozen at once
        boxDue(x, 1, 0, 1, 50, 1);
        boxDue(x, 2, 50, 1, 29, 1);
        boxDue(x, 3, 79, 10, 6, 2);
        x.declare(1, DISPLAY, NOTHING);
        boxDue(x, 2, 0, 1, 29, 1);
        leftovers();
    }

    /** What is left by rounding goes to the first ones that have a GROW, a box, and are not frozen. */
    private static void leftovers() {
        CascadeHouse x = new CascadeHouse();
        plain(x, 0);
        x.declare(0, DISPLAY, ROW);
        int[] grow = {0, 9, 2, 3, 2};
        for (int tag = 1; tag <= 5; tag++) {
            x.add(0, tag, 0);
            plain(x, tag);
            x.declare(tag, GROW, grow[tag - 1]);
        }
        x.declare(2, DISPLAY, NOTHING);
        x.window(13);
        // 13 by 7: 3.7, 5.6, 3.7 make 3, 5, 3, and 2 are left
        boxDue(x, 1, 0, 0, 0, 0);
        boxDue(x, 3, 0, 0, 4, 0);
        boxDue(x, 4, 4, 0, 6, 0);
        boxDue(x, 5, 10, 0, 3, 0);
        x.declare(3, MOST, 3);
        // the first one is frozen; 10 by 5: 6 and 4
        boxDue(x, 3, 0, 0, 3, 0);
        boxDue(x, 4, 3, 0, 6, 0);
        boxDue(x, 5, 9, 0, 4, 0);
        x.window(12);
        // 12 by 7: 3, 5, 3 and 1 left makes the first one 4; then 9 by 5: 5, 3 and 1 left, not for the frozen one
        boxDue(x, 3, 0, 0, 3, 0);
        boxDue(x, 4, 3, 0, 6, 0);
        boxDue(x, 5, 9, 0, 3, 0);
        x.window(7);
        boxDue(x, 3, 0, 0, 2, 0);
        boxDue(x, 4, 2, 0, 3, 0);
        x.declare(1, WIDTH, 6);
        // 1 is left, for the first one alone
        boxDue(x, 3, 6, 0, 1, 0);
        boxDue(x, 4, 7, 0, 0, 0);
        x.declare(1, WIDTH, 8);
        boxDue(x, 3, 8, 0, 0, 0);
    }

    private static void grids() {
        promise = 0;
        CascadeHouse x = new CascadeHouse();
        plain(x, 0);
        x.declare(0, DISPLAY, GRID);
        x.declare(0, TRACKS, 3);
        x.window(11);
        x.text(0, 1);
        for (int tag = 1; tag <= 5; tag++) {
            x.add(0, tag, 0);
            plain(x, tag);
            x.declare(tag, HEIGHT, 10 * tag);
            x.declare(tag, WIDTH, 9);
            x.declare(tag, MOST, 1);
        }
        x.declare(1, ABOVE, 30);
        x.declare(3, BEHIND, 15);
        x.declare(5, MARGIN, 2);
        boxDue(x, 1, 0, 31, 4, 10);
        boxDue(x, 2, 4, 1, 4, 20);
        boxDue(x, 3, 8, 1, 3, 30);
        boxDue(x, 4, 0, 46, 4, 40);
        boxDue(x, 5, 4, 48, 4, 50);
        boxDue(x, 0, 0, 0, 11, 100);
        x.declare(2, DISPLAY, NOTHING);
        boxDue(x, 3, 4, 1, 4, 30);
        boxDue(x, 4, 8, 1, 3, 40);
        boxDue(x, 5, 0, 48, 4, 50);
        threeRows();
    }

    /** A grid of 7 in two tracks within a block that does not begin at the top. */
    private static void threeRows() {
        CascadeHouse x = new CascadeHouse();
        x.window(7);
        x.text(0, 3);
        x.add(0, 1, 0);
        plain(x, 1);
        x.declare(0, DISPLAY, GRID);
        x.declare(0, TRACKS, 2);
        x.declare(0, ABOVE, 2);
        plain(x, 2);
        x.declare(1, HEIGHT, 10);
        for (int k = 0; k < 5; k++) {
            x.add(1, 2, 0);
            boxDue(x, 2 + k, k % 2 == 0 ? 0 : 4, 3 + k / 2 * 10, k % 2 == 0 ? 4 : 3, 10);
        }
        boxDue(x, 1, 0, 3, 7, 30);
        x.declare(1, WIDTH, 5);
        due("another WIDTH that no box shows", x.reached(), 5);
        x.declare(0, TRACKS, 6);
        boxDue(x, 2, 0, 3, 2, 10);
        boxDue(x, 3, 2, 3, 1, 10);
        boxDue(x, 6, 5, 3, 1, 10);
        x.window(3);
        boxDue(x, 4, 2, 3, 1, 10);
        boxDue(x, 5, 3, 3, 0, 10);
    }

    private static void widths() {
        promise = 0;
        CascadeHouse x = new CascadeHouse();
        for (int k = 0; k < 3; k++) {
            x.add(k, k + 1, 0);
        }
        plain(x, 3);
        x.ask(0, 40);
        x.declare(0, COLOUR, 1);
        plain(x, 1);
        plain(x, 0);
        x.contain(0, true);
        x.contain(1, true);
        valueDue(x, 3, COLOUR, 1, 0);
        x.declare(1, MOST, 39);
        valueDue(x, 3, COLOUR, 0, NONE);
        x.contain(1, false);
        valueDue(x, 3, COLOUR, 1, 0);
        x.contain(1, true);
        x.declare(1, MOST, 40);
        valueDue(x, 3, COLOUR, 1, 0);
        x.declare(2, DISPLAY, NOTHING);
        valueDue(x, 3, COLOUR, 0, NONE);
        x.ask(0, 0);
        valueDue(x, 3, COLOUR, 1, 0);
        x.ask(0, 1);
        valueDue(x, 3, COLOUR, 0, NONE);
        x.ask(0, 40);
        x.declare(2, DISPLAY, ROW);
        valueDue(x, 3, COLOUR, 0, NONE);
        x.declare(1, GROW, 1);
        valueDue(x, 3, COLOUR, 1, 0);
        x.declare(2, WIDTH, 39);
        valueDue(x, 3, COLOUR, 0, NONE);
        x.declare(2, MOST, 20);
        boxDue(x, 0, 0, 0, 20, 0);
    }
}
