import java.util.ArrayList;
import java.util.List;

/**
 * Long runs of calls, made by a counter of its own, on the class and on the model; all that can be asked is compared.
 * No house is called more often than the 512 times that the document promises: what is asked in between is asked of
 * houses made anew by the calls so far.
 */
public final class AgainstModelTest {
    private static final int RUNS = Integer.getInteger("cascade.runs", 160);
    private static final int MOST_CALLS = 512;

    /** A call, the same on the model, and what that answered. */
    private record Deed(String name, Scene.Call call, String due) {
    }

    private interface Told {
        Object answer();
    }

    private long seed;
    private final CascadeHouse house = new CascadeHouse();
    private final Model model = new Model();
    private final List<Deed> deeds = new ArrayList<>();
    private final int wildness;

    private AgainstModelTest(int run) {
        seed = run * 7919L + 17;
        wildness = run % 4 == 0 ? 12 : 60;
    }

    public static void main(String[] args) {
        int from = Integer.getInteger("cascade.first", 0);
        for (int run = from; run < from + RUNS && !Check.isWrong(); run++) {
            AgainstModelTest one = new AgainstModelTest(run);
            if (run % 3 != 0) {
                one.open();
            }
            one.go(run % 8 == 0);
            if (Check.isWrong()) {
                System.out.println("run " + run + ":");
                one.deeds.forEach(deed -> System.out.println("  " + deed.name + " -> " + deed.due));
            }
        }
        Check.end();
    }

    /** A long run goes on up to the 511th call, so that what is asked behind it is the 512th one. */
    private void go(boolean isLong) {
        for (int k = 0; !Check.isWrong() && (k < 120 || isLong && deeds.size() < MOST_CALLS - 1); k++) {
            step();
            if (!isLong) {
                Check.due("reached()", house.reached(), model.reached);
            }
            if (k < 120 ? k % 3 == 0 : k % 60 == 0) {
                compare();
            }
        }
        compare();
    }

    private int any(int bound) {
        seed = seed * 6364136223846793005L + 1442695040888963407L;
        return (int) Long.remainderUnsigned(seed >>> 20, bound);
    }

    /** A number of the range, now and then one beside it. */
    private int some(int least, int greatest) {
        if (any(wildness) == 0) {
            return new int[] {least - 1, greatest + 1, -2, -1, Integer.MAX_VALUE, Integer.MIN_VALUE}[any(6)];
        }
        return least + any(greatest - least + 1);
    }

    private int element() {
        if (any(wildness) == 0) {
            return some(-2, model.next + 1);
        }
        List<Integer> all = new ArrayList<>(model.nodes.keySet());
        return all.get(any(all.size()));
    }

    private int ruleNumber() {
        return model.sheets.isEmpty() || any(wildness) == 0 ? some(-1, 17) : any(model.sheets.size());
    }

    private int classes() {
        int kind = any(4);
        return kind == 0 ? 0 : kind == 1 ? some(0, 255) : 1 << any(3);
    }

    private int lacks() {
        return any(3) == 0 ? 1 << any(3) : any(8) == 0 ? some(0, 255) : 0;
    }

    private int tag(int least) {
        return any(3) == 0 ? some(least, 5) : some(least, 1);
    }

    private int property() {
        int kind = any(10);
        return kind < 2 ? CascadeHouse.DISPLAY : kind < 5 ? 10 + any(4) : some(0, 14);
    }

    private int number(int property) {
        if (property < 0 || property > 14) {
            return any(5);
        }
        int greatest = Model.GREATEST[property];
        if (property == CascadeHouse.DISPLAY) {
            return any(6) == 0 ? some(0, 3) : any(3);
        }
        if (property < 3 && any(5) == 0) {
            return CascadeHouse.AUTO;
        }
        if (property >= 10 && any(2) == 0) {
            return some(0, 6);
        }
        return greatest > 100 && any(5) != 0 ? some(0, 120) : some(Model.LEAST[property], greatest);
    }

    private int words() {
        int words = 0;
        int count = any(9);
        for (int k = 0; k < count; k++) {
            words = words * 10 + 1 + any(any(3) == 0 ? 9 : 4);
        }
        return any(wildness) == 0 ? some(0, 99999999) : words;
    }

    /** Many children with texts, in rows and grids, some of them with limits: what single calls come to seldom. */
    private void open() {
        int parents = 1 + any(3);
        int children = 8 + any(12);
        for (int k = 0; k < children; k++) {
            int e = any(Math.min(parents, k + 1));
            int tag = any(3);
            int classes = any(8);
            int words = any(3) == 0 ? 0 : words();
            change("add(" + e + ", " + tag + ", " + classes + ")", x -> x.add(e, tag, classes), () -> model.add(e, tag, classes));
            int made = k + 1;
            change("text(" + made + ", " + words + ")", x -> x.text(made, words), () -> model.text(made, words));
        }
        for (int k = 0; k < 7; k++) {
            int r = k;
            int tag = k < 3 ? k : CascadeHouse.NONE;
            int has = k < 3 ? 0 : 1 << (k - 3) % 3;
            change("rule(" + tag + ", " + has + ", 0, 1, 0, false)",
                x -> x.rule(tag, has, 0, 1, 0, false), () -> model.rule(tag, has, 0, 1, 0, false));
            int[] properties = k < 3 ? new int[] {5, 6, 7, 9, 14} : new int[] {any(3), 2, 6, 3 + any(2)};
            int[] greatest = k < 3 ? new int[] {3, 4, 5, 3, 6} : new int[] {40, 30, 4, 9};
            for (int j = 0; j < properties.length; j++) {
                int p = properties[j];
                int number = Model.LEAST[p] + any(greatest[j]);
                change("declare(" + r + ", " + p + ", " + number + ")", x -> x.declare(r, p, number), () -> model.declare(r, p, number));
            }
        }
    }

    private void step() {
        int kind = any(40);
        if (model.nodes.size() < 4 && kind > 25) {
            kind = any(2);
        }
        int e = element();
        int r = ruleNumber();
        int p = property();
        if (kind < 7) {
            int tag = tag(0);
            int classes = classes();
            change("add(" + e + ", " + tag + ", " + classes + ")", x -> x.add(e, tag, classes), () -> model.add(e, tag, classes));
        } else if (kind < 9) {
            int one = any(4) == 0 ? element() : Math.max(e, element());
            change("remove(" + one + ")", x -> x.remove(one), () -> model.remove(one));
        } else if (kind < 11) {
            int classes = classes();
            change("dress(" + e + ", " + classes + ")", x -> x.dress(e, classes), () -> model.dress(e, classes));
        } else if (kind < 15) {
            int words = words();
            change("text(" + e + ", " + words + ")", x -> x.text(e, words), () -> model.text(e, words));
        } else if (kind < 17) {
            boolean is = any(3) != 0;
            change("contain(" + e + ", " + is + ")", x -> x.contain(e, is), () -> model.contain(e, is) == 1);
        } else if (kind < 18) {
            int wide = any(3) == 0 ? some(0, 2000) : some(0, 120);
            change("window(" + wide + ")", x -> x.window(wide), () -> model.window(wide));
        } else if (kind < 22) {
            int tag = tag(-1);
            int has = any(2) == 0 ? 0 : classes();
            int lacks = lacks();
            int origin = some(0, 1);
            int layer = some(0, 2);
            boolean important = any(3) == 0;
            change("rule(" + tag + ", " + has + ", " + lacks + ", " + origin + ", " + layer + ", " + important + ")",
                x -> x.rule(tag, has, lacks, origin, layer, important), () -> model.rule(tag, has, lacks, origin, layer, important));
        } else if (kind < 24) {
            int way = some(0, 2);
            int tag = tag(-1);
            int has = any(2) == 0 ? 0 : classes();
            int lacks = lacks();
            change("part(" + r + ", " + way + ", " + tag + ", " + has + ", " + lacks + ")",
                x -> x.part(r, way, tag, has, lacks), () -> model.part(r, way, tag, has, lacks));
        } else if (kind < 26) {
            int least = any(3) == 0 ? -1 : some(0, 100);
            change("ask(" + r + ", " + least + ")", x -> x.ask(r, least), () -> model.ask(r, least));
        } else if (kind < 32) {
            int number = number(p);
            change("declare(" + r + ", " + p + ", " + number + ")", x -> x.declare(r, p, number), () -> model.declare(r, p, number));
        } else if (kind < 35) {
            int word = any(2) == 0 ? 3 : some(0, 3);
            change("say(" + r + ", " + p + ", " + word + ")", x -> x.say(r, p, word), () -> model.say(r, p, word));
        } else if (kind < 39) {
            int variable = some(0, 3);
            int fallback = any(2) == 0 ? -1 : number(p);
            change("refer(" + r + ", " + p + ", " + variable + ", " + fallback + ")",
                x -> x.refer(r, p, variable, fallback), () -> model.refer(r, p, variable, fallback));
        } else if (any(3) == 0) {
            change("empty(" + r + ")", x -> x.empty(r), () -> model.empty(r));
        }
    }

    private static String tell(Told call) {
        return Scene.tell(x -> call.answer(), null);
    }

    private void change(String name, Scene.Call call, Told theirs) {
        Deed deed = new Deed(name, call, tell(theirs));
        deeds.add(deed);
        Check.due(name, Scene.tell(call, house), deed.due);
    }

    /** Asks houses made anew: of all that can be asked, as many questions as a dozen of them may be asked. */
    private void compare() {
        List<Deed> questions = new ArrayList<>();
        askAtRandom(questions);
        askAll(questions);
        int room = MOST_CALLS - deeds.size();
        CascadeHouse x = null;
        for (int k = 0; k < questions.size() && k < 12 * room; k++) {
            if (k % room == 0) {
                x = again();
            }
            Deed question = questions.get(k);
            Check.due(question.name, Scene.tell(question.call, x), question.due);
        }
    }

    private CascadeHouse again() {
        CascadeHouse x = new CascadeHouse();
        for (Deed deed : deeds) {
            Scene.tell(deed.call, x);
        }
        return x;
    }

    private static void ask(List<Deed> questions, String name, Scene.Call call, Told theirs) {
        questions.add(new Deed(name, call, tell(theirs)));
    }

    private void askAll(List<Deed> questions) {
        for (int e : model.nodes.keySet()) {
            for (int property = 0; property < 14; property++) {
                askValue(questions, e, property);
            }
            for (int what = 0; what < 4; what++) {
                askBox(questions, e, what);
            }
            ask(questions, "lines(" + e + ")", x -> x.lines(e), () -> model.lines(e));
            for (int rule = 0; rule < model.sheets.size(); rule++) {
                askFits(questions, rule, e);
            }
        }
        for (int rule = 0; rule < model.sheets.size(); rule++) {
            askWeight(questions, rule);
        }
    }

    /** Now and then of an element, a rule, a property or a measure that there is none of. */
    private void askAtRandom(List<Deed> questions) {
        int e = some(-3, model.next + 2);
        ask(questions, "reached()", CascadeHouse::reached, () -> model.reached);
        ask(questions, "elements()", CascadeHouse::elements, () -> model.nodes.size());
        askValue(questions, element(), some(0, 13));
        askValue(questions, e, some(-2, 15));
        askBox(questions, element(), some(0, 3));
        askBox(questions, e, some(-2, 5));
        ask(questions, "lines(" + e + ")", x -> x.lines(e), () -> model.lines(e));
        askFits(questions, some(-3, 17), e);
        askFits(questions, ruleNumber(), element());
        askWeight(questions, some(-3, 17));
    }

    private void askValue(List<Deed> questions, int e, int p) {
        String of = "(" + e + ", " + p + ")";
        ask(questions, "value" + of, x -> x.value(e, p), () -> model.value(e, p));
        ask(questions, "from" + of, x -> x.from(e, p), () -> model.from(e, p));
        if (any(4) == 0) {
            ask(questions, "valueAnew" + of, x -> x.valueAnew(e, p), () -> model.value(e, p));
        }
    }

    private void askBox(List<Deed> questions, int e, int what) {
        String of = "(" + e + ", " + what + ")";
        ask(questions, "box" + of, x -> x.box(e, what), () -> model.box(e, what));
        if (any(4) == 0) {
            ask(questions, "boxAnew" + of, x -> x.boxAnew(e, what), () -> model.box(e, what));
        }
    }

    private void askFits(List<Deed> questions, int r, int e) {
        ask(questions, "fits(" + r + ", " + e + ")", x -> x.fits(r, e), () -> model.fits(r, e));
    }

    private void askWeight(List<Deed> questions, int r) {
        ask(questions, "weight(" + r + ")", x -> x.weight(r), () -> model.weight(r));
    }
}
