import java.util.ArrayList;
import java.util.List;

/**
 * Each refused call: the exception that the first line that applies names, also where more lines than one apply, and
 * that the call changed nothing: a house that refused it answers all that can be asked as one that was never asked for
 * it, what reached() answers and what the next calls reach included. So does a house that answered a question.
 */
public final class RefusedTest {
    private static final int NONE = CascadeHouse.NONE, AUTO = CascadeHouse.AUTO;
    private static final int WIDTH = 0, MOST = 2, ABOVE = 3, BEHIND = 4, DISPLAY = 5, GROW = 6, TRACKS = 7, COLOUR = 8,
        SIZE = 9, VARIABLES = 10, MARGIN = 14;
    private static final int LOWEST = Integer.MIN_VALUE, HIGHEST = Integer.MAX_VALUE;
    private static final int[] LEAST = {0, 0, 0, 0, 0, 0, 0, 1, 0, 1, 0, 0, 0, 0, 0};
    private static final int[] GREATEST = {2000, 2000, 2000, 100, 100, 3, 9, 6, 99, 20, 2000, 2000, 2000, 2000, 100};
    /** In both scenes: a rule with 3 parts, and one with 6 declarations, ABOVE, GROW, COLOUR and three variables. */
    private static final int LONG_RULE = 1, FULL_RULE = 2;
    private static final int[] OF_FULL_RULE = {ABOVE, GROW, COLOUR, VARIABLES, VARIABLES + 1, VARIABLES + 2};

    private final String name;
    private final Scene scene;
    private final boolean isFull;
    private final int[] noElements;
    private final int[] noRules;
    private final List<String> due;

    private RefusedTest(String name, Scene scene, boolean isFull, int[] noElements, int[] noRules) {
        this.name = name;
        this.scene = scene;
        this.isFull = isFull;
        this.noElements = noElements;
        this.noRules = noRules;
        due = scene.answersBehind(null);
    }

    public static void main(String[] args) {
        int[] outOfBoth = {NONE, AUTO, LOWEST, HIGHEST, 99};
        RefusedTest roomy = new RefusedTest("roomy", roomy(), false, with(outOfBoth, 6, 7), with(outOfBoth, 4, 5));
        RefusedTest full = new RefusedTest("full", full(), true, with(outOfBoth, 5, 25), with(outOfBoth, 16, 17));
        for (RefusedTest one : List.of(roomy, full)) {
            one.elementCalls();
            one.ruleCalls();
            one.declarations();
            one.questions();
            one.answeredQuestions();
        }
        notTwoPartsOfAMargin();
        Check.end();
    }

    private static int[] with(int[] some, int... more) {
        int[] all = java.util.Arrays.copyOf(some, some.length + more.length);
        System.arraycopy(more, 0, all, some.length, more.length);
        return all;
    }

    // ---- the scenes

    /** Elements 0 to 5, of which 6 came and went, and rules 0 to 3; the last call reaches some of them. */
    private static Scene roomy() {
        Scene scene = new Scene();
        scene.add(0, 1, 3).add(1, 2, 4).add(1, 2, 1).add(0, 5, 255).add(4, 0, 0).add(5, 1, 1).remove(6);
        rules(scene);
        scene.then(x -> x.text(2, 12345678)).then(x -> x.text(3, 9)).then(x -> x.text(5, 55)).then(x -> x.contain(1, true));
        return scene.then(x -> x.window(60)).then(x -> x.declare(0, SIZE, 3));
    }

    /** 24 elements, of which 5 is not one, and 16 rules. */
    private static Scene full() {
        Scene scene = new Scene();
        for (int k = 1; k <= 24; k++) {
            int parent = k > 20 ? 0 : k / 3 == 5 ? 4 : k / 3;
            scene.add(parent, k % 6, k * 11 % 256);
            if (k == 5) {
                scene.remove(5);
            }
        }
        rules(scene);
        for (int k = 4; k < 16; k++) {
            scene.rule(k % 7 - 1, k % 3, 0, k % 2, k % 3, k % 5 == 0);
        }
        scene.then(x -> x.text(2, 12345678)).then(x -> x.text(24, 9)).then(x -> x.contain(1, true));
        return scene.then(x -> x.window(60)).then(x -> x.declare(0, SIZE, 3));
    }

    private static void rules(Scene scene) {
        scene.rule(NONE, 0, 0, 1, 0, false).rule(2, 0, 0, 1, 1, false).rule(NONE, 1, 0, 0, 2, true).rule(1, 0, 0, 0, 0, false);
        scene.then(x -> x.part(LONG_RULE, CascadeHouse.BELOW, NONE, 1, 0)).then(x -> x.part(LONG_RULE, CascadeHouse.CHILD, 0, 0, 0));
        scene.then(x -> x.declare(LONG_RULE, CascadeHouse.HEIGHT, 33)).then(x -> x.ask(LONG_RULE, 20));
        for (int property : OF_FULL_RULE) {
            scene.then(x -> x.declare(FULL_RULE, property, 6));
        }
        scene.then(x -> x.declare(3, DISPLAY, CascadeHouse.ROW)).then(x -> x.refer(3, WIDTH, 1, 30));
    }

    // ---- what all share

    private void bounds(String what, Scene.Call call) {
        refused(what, Check.BOUNDS, call);
    }

    private void argument(String what, Scene.Call call) {
        refused(what, Check.ARGUMENT, call);
    }

    private void state(String what, Scene.Call call) {
        refused(what, Check.STATE, call);
    }

    private void refused(String what, String exception, Scene.Call call) {
        Check.due(name + ": " + what + " throws", Scene.tell(call, scene.make()), exception);
        nothingChanged(what, call);
    }

    private void nothingChanged(String what, Scene.Call call) {
        String whole = name + ": " + what;
        List<String> got = scene.answersBehind(call);
        Check.due(whole + ": as many answers", got.size(), due.size());
        for (int k = 0; k < due.size() && k < got.size(); k++) {
            Check.due(whole + ": behind it " + due.get(k), got.get(k), due.get(k));
        }
    }

    private static int[] outOf(int least, int greatest) {
        return new int[] {least - 1, greatest + 1, LOWEST, HIGHEST};
    }

    /** What a property cannot be; AUTO and NONE, where it can be neither, among it. */
    private static List<Integer> notOf(int property, boolean canBeNone) {
        List<Integer> all = new ArrayList<>();
        boolean canBeAuto = property <= MOST && !canBeNone;
        for (int out : outOf(LEAST[property], GREATEST[property])) {
            if (out != AUTO && out != NONE) {
                all.add(out);
            }
        }
        if (!canBeAuto) {
            all.add(AUTO);
        }
        if (!canBeNone) {
            all.add(NONE);
        }
        return all;
    }

    // ---- the calls

    private void elementCalls() {
        for (int e : noElements) {
            bounds("add(" + e + ", 0, 0)", x -> x.add(e, 0, 0));
            bounds("add(" + e + ", 6, 0)", x -> x.add(e, 6, 0));
            bounds("add(" + e + ", 0, 256)", x -> x.add(e, 0, 256));
            bounds("remove(" + e + ")", x -> x.remove(e));
            bounds("dress(" + e + ", 0)", x -> x.dress(e, 0));
            bounds("dress(" + e + ", 256)", x -> x.dress(e, 256));
            for (int words : new int[] {0, 1, 10, -1, 100000000}) {
                bounds("text(" + e + ", " + words + ")", x -> x.text(e, words));
            }
            bounds("contain(" + e + ", true)", x -> x.contain(e, true));
            bounds("contain(" + e + ", false)", x -> x.contain(e, false));
        }
        for (int tag : outOf(0, 5)) {
            argument("add(0, " + tag + ", 0)", x -> x.add(0, tag, 0));
        }
        for (int classes : outOf(0, 255)) {
            argument("add(1, 0, " + classes + ")", x -> x.add(1, 0, classes));
            argument("dress(1, " + classes + ")", x -> x.dress(1, classes));
        }
        argument("add(0, 6, 256)", x -> x.add(0, 6, 256));
        state("remove(0)", x -> x.remove(0));
        if (isFull) {
            state("add(0, 0, 0)", x -> x.add(0, 0, 0));
            state("add(24, 5, 255)", x -> x.add(24, 5, 255));
        }
        for (int width : outOf(0, 2000)) {
            argument("window(" + width + ")", x -> x.window(width));
        }
        int[] noWords = {-1, LOWEST, HIGHEST, 100000000, 111111111, 10, 20, 90, 100, 101, 110, 1011, 11111110, 11111101,
            11111011, 11110111, 11101111, 11011111, 10111111, 99999990, 90999999};
        for (int words : noWords) {
            argument("text(2, " + words + ")", x -> x.text(2, words));
        }
    }

    private void ruleCalls() {
        // where 16 rules are there, or the rule has 3 parts, another line of the throws clause applies behind this one
        for (int tag : outOf(NONE, 5)) {
            argument("rule, tag " + tag, x -> x.rule(tag, 0, 0, 1, 0, false));
            partArgument("tag " + tag, 0, tag, 0, 0);
        }
        for (int classes : outOf(0, 255)) {
            argument("rule, has " + classes, x -> x.rule(0, classes, 0, 1, 0, false));
            argument("rule, lacks " + classes, x -> x.rule(0, 0, classes, 1, 0, true));
            partArgument("has " + classes, 1, NONE, classes, 0);
            partArgument("lacks " + classes, 2, 5, 0, classes);
        }
        for (int origin : outOf(0, 1)) {
            argument("rule, origin " + origin, x -> x.rule(0, 0, 0, origin, 0, false));
        }
        for (int layer : outOf(0, 2)) {
            argument("rule, layer " + layer, x -> x.rule(0, 0, 0, 0, layer, false));
        }
        for (int way : outOf(0, 2)) {
            partArgument("way " + way, way, 0, 0, 0);
        }
        for (int least : outOf(NONE, 2000)) {
            argument("ask(1, " + least + ")", x -> x.ask(LONG_RULE, least));
        }
        for (int r : noRules) {
            bounds("part(" + r + ", 0, 0, 0, 0)", x -> x.part(r, 0, 0, 0, 0));
            bounds("part(" + r + ", 3, 6, 256, 256)", x -> x.part(r, 3, 6, 256, 256));
            bounds("ask(" + r + ", 0)", x -> x.ask(r, 0));
            bounds("ask(" + r + ", 2001)", x -> x.ask(r, 2001));
            bounds("empty(" + r + ")", x -> x.empty(r));
        }
        state("part, the 4th", x -> x.part(LONG_RULE, 2, 5, 255, 255));
        state("part, the 4th", x -> x.part(LONG_RULE, 0, NONE, 0, 0));
        if (isFull) {
            state("rule, the 17th", x -> x.rule(NONE, 0, 0, 0, 0, false));
            state("rule, the 17th", x -> x.rule(5, 255, 255, 1, 2, true));
        }
    }

    private void partArgument(String what, int way, int tag, int has, int lacks) {
        argument("part(0), " + what, x -> x.part(0, way, tag, has, lacks));
        argument("part of a rule with 3, " + what, x -> x.part(LONG_RULE, way, tag, has, lacks));
    }

    private void declarations() {
        for (int r : noRules) {
            noSuch("rule " + r, r, WIDTH);
            noSuch("rule " + r + ", property 15", r, 15);
        }
        for (int p : outOf(WIDTH, MARGIN)) {
            noSuch("property " + p, 0, p);
            noSuch("property " + p + " of a rule with 6", FULL_RULE, p);
        }
        for (int property = WIDTH; property <= MARGIN; property++) {
            wrongArguments(property);
            if (!isOfFullRule(property)) {
                seventh(property);
            }
        }
    }

    private static boolean isOfFullRule(int property) {
        for (int one : OF_FULL_RULE) {
            if (one == property) {
                return true;
            }
        }
        return false;
    }

    private void noSuch(String what, int r, int p) {
        bounds("declare, " + what, x -> x.declare(r, p, 1));
        bounds("declare 9999, " + what, x -> x.declare(r, p, 9999));
        bounds("say, " + what, x -> x.say(r, p, 0));
        bounds("say 4, " + what, x -> x.say(r, p, 4));
        bounds("refer, " + what, x -> x.refer(r, p, 0, 1));
        bounds("refer to 4, " + what, x -> x.refer(r, p, 4, 1));
        bounds("refer 9999, " + what, x -> x.refer(r, p, 0, 9999));
    }

    /** On a rule with room, and on one with 6 declarations, where one more is refused for that, too. */
    private void wrongArguments(int p) {
        for (int r : new int[] {0, FULL_RULE}) {
            String at = "(" + r + ", " + p + ", ";
            for (int value : notOf(p, false)) {
                argument("declare" + at + value + ")", x -> x.declare(r, p, value));
            }
            for (int word : outOf(0, 3)) {
                argument("say" + at + word + ")", x -> x.say(r, p, word));
            }
            for (int variable : outOf(0, 3)) {
                argument("refer" + at + variable + ", NONE)", x -> x.refer(r, p, variable, NONE));
            }
            for (int fallback : notOf(p, true)) {
                argument("refer" + at + "0, " + fallback + ")", x -> x.refer(r, p, 0, fallback));
            }
        }
    }

    private void seventh(int p) {
        state("declare, the 7th, " + p, x -> x.declare(FULL_RULE, p, 1));
        state("say, the 7th, " + p, x -> x.say(FULL_RULE, p, 0));
        state("refer, the 7th, " + p, x -> x.refer(FULL_RULE, p, 3, NONE));
    }

    private void questions() {
        for (int e : noElements) {
            for (int p : new int[] {0, 13, 14, -1}) {
                noValue(e, p);
            }
            for (int what : new int[] {0, 3, 4, -1}) {
                bounds("box(" + e + ", " + what + ")", x -> x.box(e, what));
                bounds("boxAnew(" + e + ", " + what + ")", x -> x.boxAnew(e, what));
            }
            bounds("lines(" + e + ")", x -> x.lines(e));
            bounds("fits(0, " + e + ")", x -> x.fits(0, e));
            bounds("fits(99, " + e + ")", x -> x.fits(99, e));
        }
        for (int p : outOf(0, 13)) {
            noValue(1, p);
        }
        for (int what : outOf(0, 3)) {
            argument("box(1, " + what + ")", x -> x.box(1, what));
            argument("boxAnew(1, " + what + ")", x -> x.boxAnew(1, what));
        }
        for (int r : noRules) {
            bounds("fits(" + r + ", 0)", x -> x.fits(r, 0));
            bounds("weight(" + r + ")", x -> x.weight(r));
        }
    }

    private void noValue(int e, int p) {
        bounds("value(" + e + ", " + p + ")", x -> x.value(e, p));
        bounds("valueAnew(" + e + ", " + p + ")", x -> x.valueAnew(e, p));
        bounds("from(" + e + ", " + p + ")", x -> x.from(e, p));
    }

    /** A question that is answered changes nothing either: reached() goes on telling of the last call that may. */
    private void answeredQuestions() {
        for (int e = 0; e <= 4; e++) {
            int element = e;
            for (int p = 0; p <= 13; p++) {
                int property = p;
                nothingChanged("value", x -> x.value(element, property));
                nothingChanged("valueAnew", x -> x.valueAnew(element, property));
                nothingChanged("from", x -> x.from(element, property));
            }
            for (int w = 0; w <= 3; w++) {
                int what = w;
                nothingChanged("box", x -> x.box(element, what));
                nothingChanged("boxAnew", x -> x.boxAnew(element, what));
            }
            nothingChanged("lines", x -> x.lines(element));
            nothingChanged("fits", x -> x.fits(0, element));
        }
        nothingChanged("weight", x -> x.weight(LONG_RULE));
        nothingChanged("elements", CascadeHouse::elements);
        nothingChanged("reached", CascadeHouse::reached);
    }

    /** MARGIN needs room for both of its declarations that are not there yet; otherwise it makes none of them. */
    private static void notTwoPartsOfAMargin() {
        for (int count = 4; count <= 6; count++) {
            for (int margins = 0; margins <= 2; margins++) {
                int there = count;
                int[] of = margins == 0 ? new int[] {} : margins == 1 ? new int[] {BEHIND} : new int[] {ABOVE, BEHIND};
                Scene scene = new Scene().rule(0, 0, 0, 1, 0, false);
                for (int property : of) {
                    scene.then(x -> x.declare(0, property, 40));
                }
                int[] others = {GROW, TRACKS, COLOUR, SIZE, VARIABLES, MOST};
                for (int k = 0; k < there - margins; k++) {
                    int property = others[k];
                    scene.then(x -> x.declare(0, property, 2));
                }
                marginOn(scene, there + 2 - margins, there + " with " + margins + " of the two");
            }
        }
    }

    private static void marginOn(Scene scene, int then, String what) {
        String answer = then > 6 ? Check.STATE : Integer.toString(then);
        Check.due("declare MARGIN, " + what, Scene.tell(x -> x.declare(0, MARGIN, 7), scene.make()), answer);
        Check.due("say MARGIN, " + what, Scene.tell(x -> x.say(0, MARGIN, 0), scene.make()), answer);
        Check.due("refer MARGIN, " + what, Scene.tell(x -> x.refer(0, MARGIN, 3, 7), scene.make()), answer);
        if (then > 6) {
            RefusedTest one = new RefusedTest(what, scene, false, new int[] {}, new int[] {});
            one.state("declare MARGIN", x -> x.declare(0, MARGIN, 7));
            one.state("say MARGIN", x -> x.say(0, MARGIN, 0));
            one.state("refer MARGIN", x -> x.refer(0, MARGIN, 3, 7));
        }
    }
}
