import java.util.ArrayList;
import java.util.List;

/**
 * What is told of a house stays until it is told otherwise: behind one call of each kind, all that can be read back of
 * all elements and rules, those that the call is not about above all.
 */
public final class StateTest {
    private static final int NONE = CascadeHouse.NONE;
    private static final int COLOUR = CascadeHouse.COLOUR, SIZE = CascadeHouse.SIZE, GROW = CascadeHouse.GROW, MARGIN = CascadeHouse.MARGIN;
    private static final int AUTHOR = CascadeHouse.AUTHOR;
    private static final int ELEMENTS = 7, RULES = 4;
    private static final int[] PARENTS = {NONE, 0, 0, 0, 2, 2, 4};

    /** What is due of one element. */
    private static final class Of {
        final int number;
        int classes;
        int words;
        boolean isContainer;

        Of(int number, int classes, int words, boolean isContainer) {
            this.number = number;
            this.classes = classes;
            this.words = words;
            this.isContainer = isContainer;
        }
    }

    private final CascadeHouse x = new CascadeHouse();
    private final List<Of> elements = new ArrayList<>();
    private final List<Integer> weights = new ArrayList<>();
    private final List<Integer> leasts = new ArrayList<>();
    private final List<Integer> counts = new ArrayList<>();
    private int window = 85;

    /** SIZE is 20 for all and no element is wider than 85, so each word of 4 letters takes a line. */
    private StateTest() {
        for (int e = 0; e < ELEMENTS; e++) {
            if (e > 0) {
                x.add(PARENTS[e], e % 6, 0);
            }
            elements.add(new Of(e, 128 + e, e + 1, e % 2 == 0));
            x.dress(e, 128 + e);
            x.text(e, words(e + 1));
            x.contain(e, e % 2 == 0);
        }
        for (int r = 0; r < RULES; r++) {
            x.rule(r == 0 ? 0 : NONE, 0, r, AUTHOR, 0, false);
            x.part(r, CascadeHouse.CHILD, NONE, 0, 128);
        }
        for (int r = 0; r < RULES; r++) {
            x.declare(r, MARGIN, r);
            x.declare(r, COLOUR, 50 + r);
            if (r % 2 == 0) {
                x.refer(r, GROW, r, r);
            }
            x.ask(r, 10 * r);
            weights.add(r == 0 ? 11 : 10 + 10 * Integer.bitCount(r));
            leasts.add(10 * r);
            counts.add(r % 2 == 0 ? 4 : 3);
        }
        sizes();
        x.window(window);
    }

    /** The last rule alone fits elements, as all are of the class 7. */
    private void sizes() {
        int all = x.rule(NONE, 128, 0, AUTHOR, 0, false);
        x.declare(all, SIZE, 20);
        weights.add(10);
        leasts.add(NONE);
        counts.add(1);
    }

    private static int words(int count) {
        int words = 0;
        for (int k = 0; k < count; k++) {
            words = words * 10 + 4;
        }
        return words;
    }

    public static void main(String[] args) {
        new StateTest().isDue("nothing more");
        for (int e = 0; e < ELEMENTS; e++) {
            ofAnElement(e);
            added(e);
        }
        for (int e = 1; e < ELEMENTS; e++) {
            removed(e);
        }
        StateTest windowed = new StateTest();
        windowed.window = 84;
        windowed.x.window(84);
        windowed.isDue("window(84)");
        for (int r = 0; r < RULES; r++) {
            ofARule(r);
        }
        StateTest ruled = new StateTest();
        ruled.weights.add(ruled.x.weight(ruled.x.rule(5, 1, 0, AUTHOR, 0, false)));
        ruled.leasts.add(NONE);
        ruled.counts.add(0);
        ruled.isDue("rule");
        Check.end();
    }

    // ---- one call more

    private static void ofAnElement(int e) {
        StateTest dressed = new StateTest();
        dressed.elements.get(e).classes = 129;
        dressed.x.dress(e, 129);
        dressed.isDue("dress(" + e + ", 129)");
        StateTest told = new StateTest();
        told.elements.get(e).words = 8;
        told.x.text(e, words(8));
        told.isDue("text(" + e + ", 8 words)");
        StateTest contained = new StateTest();
        contained.elements.get(e).isContainer = e % 2 == 1;
        contained.x.contain(e, e % 2 == 1);
        contained.isDue("contain(" + e + ", ..)");
    }

    private static void added(int e) {
        StateTest more = new StateTest();
        more.elements.add(new Of(ELEMENTS, 131, 0, false));
        Check.due("add", more.x.add(e, 1, 131), ELEMENTS);
        more.isDue("add(" + e + ", 1, 131)");
    }

    private static void removed(int e) {
        StateTest less = new StateTest();
        int went = less.x.remove(e);
        less.elements.removeIf(of -> isWithin(of.number, e));
        Check.due("remove(" + e + ")", went, ELEMENTS - less.elements.size());
        less.isDue("remove(" + e + ")");
        Check.due("the next number", less.x.add(0, 0, 0), ELEMENTS);
    }

    private static boolean isWithin(int element, int top) {
        for (int at = element; at != NONE; at = PARENTS[at]) {
            if (at == top) {
                return true;
            }
        }
        return false;
    }

    private static void ofARule(int r) {
        StateTest asked = new StateTest();
        asked.leasts.set(r, 77);
        asked.x.ask(r, 77);
        asked.isDue("ask(" + r + ", 77)");
        StateTest longer = new StateTest();
        longer.weights.set(r, longer.weights.get(r) + 11);
        longer.x.part(r, CascadeHouse.NEXT, 3, 1, 0);
        longer.isDue("part(" + r + ", ..)");
        for (int kind = 0; kind < 3; kind++) {
            StateTest declared = new StateTest();
            declared.counts.set(r, declared.counts.get(r) + 1);
            declared.declareInto(r, kind);
            declared.isDue("declare, say or refer " + kind + " into " + r);
        }
        StateTest emptied = new StateTest();
        emptied.counts.set(r, 0);
        emptied.x.empty(r);
        emptied.isDue("empty(" + r + ")");
    }

    private void declareInto(int rule, int kind) {
        if (kind == 0) {
            x.declare(rule, CascadeHouse.TRACKS, 4);
        } else if (kind == 1) {
            x.say(rule, CascadeHouse.TRACKS, CascadeHouse.BACK);
        } else {
            x.refer(rule, CascadeHouse.TRACKS, 1, 4);
        }
    }

    // ---- all that is read back

    private void isDue(String what) {
        Check.due(what + ": elements()", x.elements(), elements.size());
        for (Of of : elements) {
            Check.due(what + ": lines(" + of.number + ")", x.lines(of.number), of.words);
        }
        for (int r = 0; r < weights.size(); r++) {
            Check.due(what + ": weight(" + r + ")", x.weight(r), weights.get(r));
        }
        for (int r = 0; r < leasts.size(); r++) {
            Check.due(what + ": ask(" + r + ", NONE)", x.ask(r, NONE), leasts.get(r));
        }
        Check.due(what + ": window(1)", x.window(1), window);
        for (Of of : elements) {
            Check.due(what + ": dress(" + of.number + ", 0)", x.dress(of.number, 0), of.classes);
        }
        for (Of of : elements) {
            Check.due(what + ": contain(" + of.number + ", true)", x.contain(of.number, true), of.isContainer);
        }
        for (int r = 0; r < counts.size(); r++) {
            Check.due(what + ": empty(" + r + ")", x.empty(r), counts.get(r));
        }
    }
}
