import java.util.List;

/**
 * A call changes what it tells of and nothing else: what is changed and changed back leaves a house that answers all that
 * can be asked as before. What reached() answers is left out, as that tells of the way and not of where it led to.
 */
public final class OnlyThatTest {
    private static final int NONE = CascadeHouse.NONE, AUTO = CascadeHouse.AUTO;
    private static final int WIDTH = 0, HEIGHT = 1, MOST = 2, ABOVE = 3, DISPLAY = 5, GROW = 6, TRACKS = 7, COLOUR = 8, SIZE = 9,
        VARIABLES = 10, MARGIN = 14;
    private static final int BLOCK = 0, ROW = 1, GRID = 2, NOTHING = 3;
    private static final int CHILD = 0, BELOW = 1, NEXT = 2;
    private static final int READER = 0, AUTHOR = 1;
    private static final int INHERIT = 0, INITIAL = 1, UNSET = 2, BACK = 3;
    private static final int ELEMENTS = 10, RULES = 6;
    /** The texts and the classes of the elements. */
    private static final int[] WORDS = {5, 0, 123, 99, 11111111, 7, 4321, 0, 26, 3};
    private static final int[] CLASSES = {0, 1, 2, 3, 0, 129, 4, 1, 0, 6};
    /** The next element's number, and the next rule's. */
    private static final int NEW_ELEMENT = ELEMENTS, NEW_RULE = RULES;

    private static final Scene SCENE = scene();

    public static void main(String[] args) {
        for (int e = 0; e < ELEMENTS; e++) {
            elementThereAndBack(e);
        }
        for (int r = 0; r < RULES; r++) {
            asksThereAndBack(r);
        }
        leftOut("window", x -> x.window(x.window(1999)));
        declaredThereAndBack();
        emptiedAndFilled();
        cameAndWent();
        inAnyOrder();
        Check.end();
    }

    // ---- the scene

    /** Elements 0 to 9, four levels deep, of which two have no box, and rules that ask, refer to variables and go back. */
    private static Scene scene() {
        Scene scene = new Scene();
        int[] parents = {0, 0, 0, 1, 1, 2, 2, 4, 8};
        for (int k = 0; k < parents.length; k++) {
            int e = k + 1;
            scene.add(parents[k], e % 6, CLASSES[e]);
        }
        for (int e = 0; e < ELEMENTS; e++) {
            int at = e;
            scene.then(x -> x.text(at, WORDS[at]));
        }
        scene.rule(NONE, 1, 0, AUTHOR, 0, false).rule(NONE, 0, 4, READER, 2, false).rule(2, 0, 0, READER, 0, true);
        scene.rule(NONE, 2, 0, AUTHOR, 1, false).rule(NONE, 0, 0, AUTHOR, 1, true).rule(0, 0, 0, AUTHOR, 2, false);
        scene.then(x -> x.part(1, BELOW, 1, 0, 0)).then(x -> x.part(1, CHILD, NONE, 0, 0));
        scene.then(x -> x.part(3, NEXT, NONE, 1, 0)).then(x -> x.part(4, BELOW, 4, 0, 0));
        scene.then(x -> x.contain(1, true)).then(x -> x.contain(4, true)).then(x -> x.contain(7, true));
        scene.then(x -> x.ask(1, 30)).then(x -> x.ask(4, 0));
        for (int r = 0; r < RULES; r++) {
            int at = r;
            scene.then(x -> fill(at, x));
        }
        return scene.then(x -> x.window(90));
    }

    /** The declarations of a rule; answers the last one of their answers. */
    private static int fill(int rule, CascadeHouse x) {
        switch (rule) {
            case 0:
                x.declare(0, DISPLAY, ROW);
                x.declare(0, VARIABLES + 1, 60);
                x.say(0, HEIGHT, INHERIT);
                return x.declare(0, MARGIN, 4);
            case 1:
                x.refer(1, WIDTH, 1, 50);
                x.declare(1, GROW, 3);
                return x.refer(1, VARIABLES, 2, 7);
            case 2:
                x.declare(2, SIZE, 2);
                x.declare(2, COLOUR, 44);
                return x.say(2, MARGIN, BACK);
            case 3:
                x.say(3, COLOUR, INITIAL);
                x.declare(3, MOST, 40);
                return x.declare(3, GROW, 1);
            case 4:
                x.say(4, WIDTH, BACK);
                x.refer(4, VARIABLES + 2, 0, NONE);
                return x.refer(4, TRACKS, 3, 2);
            default:
                x.declare(5, DISPLAY, GRID);
                x.declare(5, TRACKS, 2);
                x.declare(5, VARIABLES + 3, 3);
                return x.declare(5, HEIGHT, AUTO);
        }
    }

    // ---- what all share

    /** The call, there and back, leaves nothing behind. */
    private static void leftOut(String what, Scene.Call call) {
        same(what, call, null);
    }

    private static void same(String what, Scene.Call one, Scene.Call other) {
        sameAnswers(what, SCENE.answersBehind(one), SCENE.answersBehind(other));
    }

    private static void sameAnswers(String what, List<String> got, List<String> due) {
        Check.due(what + ": as many answers", got.size(), due.size());
        for (int k = 0; k < due.size() && k < got.size(); k++) {
            if (!due.get(k).startsWith("reached()")) {
                Check.due(what + ": behind it " + due.get(k), got.get(k), due.get(k));
            }
        }
    }

    // ---- there and back

    private static void elementThereAndBack(int e) {
        for (int classes : new int[] {0, 1, 8, 255}) {
            leftOut("dress(" + e + ", " + classes + ")", x -> x.dress(e, x.dress(e, classes)));
        }
        for (int words : new int[] {0, 1, 99999999}) {
            leftOut("text(" + e + ", " + words + ")", x -> x.text(e, words) + x.text(e, WORDS[e]));
        }
        leftOut("contain(" + e + ", true)", x -> x.contain(e, x.contain(e, true)));
        leftOut("contain(" + e + ", false)", x -> x.contain(e, x.contain(e, false)));
    }

    private static void asksThereAndBack(int r) {
        for (int least : new int[] {NONE, 0, 77, 2000}) {
            leftOut("ask(" + r + ", " + least + ")", x -> x.ask(r, x.ask(r, least)));
        }
    }

    private static void declaredThereAndBack() {
        for (int r = 0; r < RULES; r++) {
            int rule = r;
            for (int property : new int[] {WIDTH, HEIGHT, MOST, ABOVE, DISPLAY, GROW, TRACKS, COLOUR, SIZE, VARIABLES, VARIABLES + 3}) {
                String what = "(" + rule + ", " + property + ", ..) ";
                same("declare" + what, x -> refilled(x, rule, x.declare(rule, property, 1)), x -> refilled(x, rule, 0));
                same("say" + what, x -> refilled(x, rule, x.say(rule, property, UNSET)), x -> refilled(x, rule, 0));
                same("refer" + what, x -> refilled(x, rule, x.refer(rule, property, 3, 1)), x -> refilled(x, rule, 0));
            }
        }
        leftOut("a declaration twice", x -> fill(0, x) + fill(0, x) + fill(4, x));
    }

    private static int refilled(CascadeHouse x, int rule, int before) {
        return before + x.empty(rule) + fill(rule, x);
    }

    /** An emptied rule keeps its selector, its place among the others, and the width that it asks for. */
    private static void emptiedAndFilled() {
        for (int r = 0; r < RULES; r++) {
            int rule = r;
            leftOut("empty(" + rule + ")", x -> refilled(x, rule, 0));
        }
        leftOut("all are emptied, then all filled", x -> {
            for (int r = 0; r < RULES; r++) {
                x.empty(r);
            }
            int sum = 0;
            for (int r = RULES - 1; r >= 0; r--) {
                sum += fill(r, x);
            }
            return sum;
        });
    }

    // ---- what came and went, and in which order

    /** Whatever was told of an element that went, it makes no difference to those that stay, nor to the next one. */
    private static void cameAndWent() {
        for (int e = 0; e < ELEMENTS; e++) {
            int parent = e;
            same("below " + parent, x -> {
                x.add(parent, 3, 255);
                x.text(NEW_ELEMENT, 12345678);
                x.contain(NEW_ELEMENT, true);
                return x.remove(NEW_ELEMENT);
            }, x -> x.add(0, 0, 0) + x.remove(NEW_ELEMENT));
        }
        same("two at once", x -> {
            x.add(3, 1, 1);
            x.add(NEW_ELEMENT, 2, 2);
            return x.remove(NEW_ELEMENT);
        }, x -> {
            x.add(6, 5, 0);
            x.add(6, 4, 0);
            x.remove(NEW_ELEMENT);
            return x.remove(NEW_ELEMENT + 1);
        });
    }

    /** A rule is by what was told of it, not by when: its parts, its width and its declarations may come in any order. */
    private static void inAnyOrder() {
        Scene partsFirst = scene().rule(NONE, 0, 1, AUTHOR, 1, true);
        partsFirst.then(x -> x.part(NEW_RULE, BELOW, NONE, 0, 0)).then(x -> x.part(NEW_RULE, BELOW, 0, 0, 0));
        partsFirst.then(x -> x.ask(NEW_RULE, 20));
        partsFirst.then(x -> x.declare(NEW_RULE, DISPLAY, BLOCK)).then(x -> x.declare(NEW_RULE, COLOUR, 9));
        Scene partsLast = scene().rule(NONE, 0, 1, AUTHOR, 1, true);
        partsLast.then(x -> x.declare(NEW_RULE, COLOUR, 9)).then(x -> x.declare(NEW_RULE, DISPLAY, BLOCK));
        partsLast.then(x -> x.ask(NEW_RULE, 20));
        partsLast.then(x -> x.part(NEW_RULE, BELOW, NONE, 0, 0)).then(x -> x.part(NEW_RULE, BELOW, 0, 0, 0));
        sameAnswers("parts first or last", partsFirst.answersBehind(null), partsLast.answersBehind(null));
        Scene dressedFirst = scene().add(1, 2, 3).then(x -> x.text(NEW_ELEMENT, 27)).then(x -> x.contain(NEW_ELEMENT, true));
        dressedFirst.add(NEW_ELEMENT, 5, 1);
        Scene dressedLast = scene().then(x -> x.declare(0, DISPLAY, NOTHING)).add(1, 2, 0).add(NEW_ELEMENT, 5, 255);
        dressedLast.then(x -> x.contain(NEW_ELEMENT, true)).then(x -> x.dress(NEW_ELEMENT + 1, 1));
        dressedLast.then(x -> x.text(NEW_ELEMENT, 27)).then(x -> x.dress(NEW_ELEMENT, 3)).then(x -> x.declare(0, DISPLAY, ROW));
        sameAnswers("dressed first or last", dressedLast.answersBehind(null), dressedFirst.answersBehind(null));
    }
}
