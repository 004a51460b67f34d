import java.util.ArrayList;
import java.util.List;

/**
 * The calls that make a house, made again for each few questions, so that no house is asked more often than the 512
 * times that the document promises.
 */
final class Scene {
    /** One call with whatever it answers. */
    interface Call {
        Object on(CascadeHouse x);
    }

    private record Named(String name, Call call) {
        String tell(CascadeHouse x) {
            return name + " -> " + Scene.tell(call, x);
        }
    }

    private static final int MOST_CALLS = 512;
    /** A call here may be made of some calls of the house. */
    private static final int CALLS_MORE = 64;
    private static final int PROPERTIES = 14;
    private static final int MEASURES = 4;

    private final List<Call> calls = new ArrayList<>();
    private final List<Integer> elements = new ArrayList<>(List.of(0));
    private int rules = 0;
    private int nextElement = 1;

    Scene then(Call call) {
        calls.add(call);
        return this;
    }

    /** Adds an element, known to the questions by its number. */
    Scene add(int parent, int tag, int classes) {
        elements.add(nextElement++);
        return then(x -> x.add(parent, tag, classes));
    }

    /** Removes an element without children. */
    Scene remove(int element) {
        elements.remove(Integer.valueOf(element));
        return then(x -> x.remove(element));
    }

    Scene rule(int tag, int has, int lacks, int origin, int layer, boolean isImportant) {
        rules++;
        return then(x -> x.rule(tag, has, lacks, origin, layer, isImportant));
    }

    CascadeHouse make() {
        CascadeHouse x = new CascadeHouse();
        for (Call call : calls) {
            call.on(x);
        }
        return x;
    }

    /** The answer in words; the name of the exact exception if there is one. */
    static String tell(Call call, CascadeHouse x) {
        try {
            return String.valueOf(call.on(x));
        } catch (RuntimeException e) {
            return e.getClass().getSimpleName();
        }
    }

    /** All that the house answers behind one more call, or behind none if that is null. */
    List<String> answersBehind(Call last) {
        List<Named> questions = questions();
        List<String> told = new ArrayList<>();
        int room = MOST_CALLS - calls.size() - CALLS_MORE;
        CascadeHouse x = null;
        for (int k = 0; k < questions.size(); k++) {
            if (k % room == 0) {
                x = makeWith(last);
            }
            told.add(questions.get(k).tell(x));
        }
        CascadeHouse closed = makeWith(last);
        for (Named call : closing()) {
            told.add(call.tell(closed));
            told.add("  reached() -> " + closed.reached());
        }
        return told;
    }

    private CascadeHouse makeWith(Call last) {
        CascadeHouse x = make();
        if (last != null) {
            tell(last, x);
        }
        return x;
    }

    private List<Named> questions() {
        List<Named> all = new ArrayList<>();
        all.add(new Named("reached()", CascadeHouse::reached));
        all.add(new Named("elements()", CascadeHouse::elements));
        for (int e : elements) {
            askElement(e, all);
        }
        for (int rule = 0; rule < rules; rule++) {
            int r = rule;
            all.add(new Named("weight(" + r + ")", x -> x.weight(r)));
        }
        all.add(new Named("reached()", CascadeHouse::reached));
        return all;
    }

    private void askElement(int e, List<Named> all) {
        for (int property = 0; property < PROPERTIES; property++) {
            int p = property;
            all.add(new Named("value(" + e + ", " + p + ")", x -> x.value(e, p)));
            all.add(new Named("from(" + e + ", " + p + ")", x -> x.from(e, p)));
        }
        for (int what = 0; what < MEASURES; what++) {
            int w = what;
            all.add(new Named("box(" + e + ", " + w + ")", x -> x.box(e, w)));
        }
        all.add(new Named("lines(" + e + ")", x -> x.lines(e)));
        for (int rule = 0; rule < rules; rule++) {
            int r = rule;
            all.add(new Named("fits(" + r + ", " + e + ")", x -> x.fits(r, e)));
        }
    }

    /** Calls that change what is kept unseen: their answers, and how many elements they reach, tell what it was. */
    private List<Named> closing() {
        List<Named> all = new ArrayList<>();
        all.add(new Named("window(77)", x -> x.window(77)));
        for (int rule = 0; rule < rules; rule++) {
            int r = rule;
            all.add(new Named("ask(" + r + ", NONE)", x -> x.ask(r, CascadeHouse.NONE)));
            all.add(new Named("say(" + r + ", COLOUR, BACK)", x -> x.say(r, CascadeHouse.COLOUR, CascadeHouse.BACK)));
            all.add(new Named("declare(" + r + ", MARGIN, 5)", x -> x.declare(r, CascadeHouse.MARGIN, 5)));
            all.add(new Named("part(" + r + ", CHILD, NONE, 1, 0)", x -> x.part(r, CascadeHouse.CHILD, CascadeHouse.NONE, 1, 0)));
            all.add(new Named("empty(" + r + ")", x -> x.empty(r)));
        }
        for (int e : elements) {
            all.add(new Named("dress(" + e + ", 255)", x -> x.dress(e, 255)));
            all.add(new Named("contain(" + e + ", true)", x -> x.contain(e, true)));
        }
        all.add(new Named("rule(...)", x -> x.rule(CascadeHouse.NONE, 0, 0, CascadeHouse.AUTHOR, 0, false)));
        all.add(new Named("add(0, 0, 0)", x -> x.add(0, 0, 0)));
        for (int k = elements.size() - 1; k >= 0; k--) {
            int e = elements.get(k);
            all.add(new Named("remove(" + e + ")", x -> x.remove(e)));
        }
        all.add(new Named("add(0, 0, 0)", x -> x.add(0, 0, 0)));
        return all;
    }
}
