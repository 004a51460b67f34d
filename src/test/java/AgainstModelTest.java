import java.util.ArrayList;
import java.util.List;

/** Long runs of calls, made by a counter of its own, on the class and on the model; all that can be asked is compared. */
public final class AgainstModelTest {
    private static final int RUNS = Integer.getInteger("cascade.runs", 160);

    private long seed;
    private final CascadeHouse house = new CascadeHouse();
    private final Model model = new Model();
    private final List<String> calls = new ArrayList<>();
    private final int wildness;

    private AgainstModelTest(int run) {
        seed = run * 7919L + 17;
        wildness = run % 4 == 0 ? 12 : 60;
    }

    public static void main(String[] args) {
        int from = Integer.getInteger("cascade.first", 0);
        for (int run = from; run < from + RUNS && !Check.isWrong(); run++) {
            AgainstModelTest one = new AgainstModelTest(run);
            if (run % 3 != 0) {
                one.open();
            }
            int most = run % 8 == 0 ? 440 : 120;
            for (int k = 0; k < most && !Check.isWrong(); k++) {
                one.step();
            }
            if (Check.isWrong()) {
                System.out.println("run " + run + ":");
                one.calls.forEach(System.out::println);
            }
        }
        Check.end();
    }

    private int any(int bound) {
        seed = seed * 6364136223846793005L + 1442695040888963407L;
        return (int) Long.remainderUnsigned(seed >>> 20, bound);
    }

    /** A number of the range, now and then one beside it. */
    private int some(int least, int greatest) {
        if (any(wildness) == 0) {
            return new int[] {least - 1, greatest + 1, -2, -1, Integer.MAX_VALUE, Integer.MIN_VALUE}[any(6)];
        }
        return least + any(greatest - least + 1);
    }

    private int element() {
        if (any(wildness) == 0) {
            return some(-2, model.next + 1);
        }
        List<Integer> all = new ArrayList<>(model.nodes.keySet());
        return all.get(any(all.size()));
    }

    private int ruleNumber() {
        return model.sheets.isEmpty() || any(wildness) == 0 ? some(-1, 17) : any(model.sheets.size());
    }

    private int classes() {
        int kind = any(4);
        return kind == 0 ? 0 : kind == 1 ? some(0, 255) : 1 << any(3);
    }

    private int lacks() {
        return any(3) == 0 ? 1 << any(3) : any(8) == 0 ? some(0, 255) : 0;
    }

    private int tag(int least) {
        return any(3) == 0 ? some(least, 5) : some(least, 1);
    }

    private int property() {
        int kind = any(10);
        return kind < 2 ? CascadeHouse.DISPLAY : kind < 5 ? 10 + any(4) : some(0, 14);
    }

    private int number(int property) {
        if (property < 0 || property > 14) {
            return any(5);
        }
        int greatest = Model.GREATEST[property];
        if (property == CascadeHouse.DISPLAY) {
            return any(6) == 0 ? some(0, 3) : any(3);
        }
        if (property < 3 && any(5) == 0) {
            return CascadeHouse.AUTO;
        }
        if (property >= 10 && any(2) == 0) {
            return some(0, 6);
        }
        return greatest > 100 && any(5) != 0 ? some(0, 120) : some(Model.LEAST[property], greatest);
    }

    private int words() {
        int words = 0;
        int count = any(9);
        for (int k = 0; k < count; k++) {
            words = words * 10 + 1 + any(any(3) == 0 ? 9 : 4);
        }
        return any(wildness) == 0 ? some(0, 99999999) : words;
    }

    /** Many children with texts, in rows and grids, some of them with limits: what single calls come to seldom. */
    private void open() {
        int parents = 1 + any(3);
        int children = 8 + any(12);
        for (int k = 0; k < children; k++) {
            int e = any(Math.min(parents, k + 1));
            int tag = any(3);
            int classes = any(8);
            int words = any(3) == 0 ? 0 : words();
            same("add(" + e + ", " + tag + ", " + classes + ")", () -> house.add(e, tag, classes), () -> model.add(e, tag, classes));
            int made = k + 1;
            same("text(" + made + ", " + words + ")", () -> house.text(made, words), () -> model.text(made, words));
        }
        for (int k = 0; k < 7; k++) {
            int r = k;
            int tag = k < 3 ? k : CascadeHouse.NONE;
            int has = k < 3 ? 0 : 1 << (k - 3) % 3;
            same("rule(" + tag + ", " + has + ", 0, 1, 0, false)",
                () -> house.rule(tag, has, 0, 1, 0, false), () -> model.rule(tag, has, 0, 1, 0, false));
            int[] properties = k < 3 ? new int[] {5, 6, 7, 9, 14} : new int[] {any(3), 2, 6, 3 + any(2)};
            int[] greatest = k < 3 ? new int[] {3, 4, 5, 3, 6} : new int[] {40, 30, 4, 9};
            for (int j = 0; j < properties.length; j++) {
                int p = properties[j];
                int number = Model.LEAST[p] + any(greatest[j]);
                same("declare(" + r + ", " + p + ", " + number + ")", () -> house.declare(r, p, number), () -> model.declare(r, p, number));
            }
        }
        compareAll();
    }

    private void step() {
        int kind = any(40);
        if (model.nodes.size() < 4 && kind > 25) {
            kind = any(2);
        }
        int e = element();
        int r = ruleNumber();
        int p = property();
        if (kind < 7) {
            int tag = tag(0);
            int classes = classes();
            same("add(" + e + ", " + tag + ", " + classes + ")", () -> house.add(e, tag, classes), () -> model.add(e, tag, classes));
        } else if (kind < 9) {
            int one = any(4) == 0 ? element() : Math.max(e, element());
            same("remove(" + one + ")", () -> house.remove(one), () -> model.remove(one));
        } else if (kind < 11) {
            int classes = classes();
            same("dress(" + e + ", " + classes + ")", () -> house.dress(e, classes), () -> model.dress(e, classes));
        } else if (kind < 15) {
            int words = words();
            same("text(" + e + ", " + words + ")", () -> house.text(e, words), () -> model.text(e, words));
        } else if (kind < 17) {
            boolean is = any(3) != 0;
            same("contain(" + e + ", " + is + ")", () -> house.contain(e, is) ? 1 : 0, () -> model.contain(e, is));
        } else if (kind < 18) {
            int wide = any(3) == 0 ? some(0, 2000) : some(0, 120);
            same("window(" + wide + ")", () -> house.window(wide), () -> model.window(wide));
        } else if (kind < 22) {
            int tag = tag(-1);
            int has = any(2) == 0 ? 0 : classes();
            int lacks = lacks();
            int origin = some(0, 1);
            int layer = some(0, 2);
            boolean important = any(3) == 0;
            same("rule(" + tag + ", " + has + ", " + lacks + ", " + origin + ", " + layer + ", " + important + ")",
                () -> house.rule(tag, has, lacks, origin, layer, important), () -> model.rule(tag, has, lacks, origin, layer, important));
        } else if (kind < 24) {
            int way = some(0, 2);
            int tag = tag(-1);
            int has = any(2) == 0 ? 0 : classes();
            int lacks = lacks();
            same("part(" + r + ", " + way + ", " + tag + ", " + has + ", " + lacks + ")",
                () -> house.part(r, way, tag, has, lacks), () -> model.part(r, way, tag, has, lacks));
        } else if (kind < 26) {
            int least = any(3) == 0 ? -1 : some(0, 100);
            same("ask(" + r + ", " + least + ")", () -> house.ask(r, least), () -> model.ask(r, least));
        } else if (kind < 32) {
            int number = number(p);
            same("declare(" + r + ", " + p + ", " + number + ")", () -> house.declare(r, p, number), () -> model.declare(r, p, number));
        } else if (kind < 35) {
            int word = any(2) == 0 ? 3 : some(0, 3);
            same("say(" + r + ", " + p + ", " + word + ")", () -> house.say(r, p, word), () -> model.say(r, p, word));
        } else if (kind < 39) {
            int variable = some(0, 3);
            int fallback = any(2) == 0 ? -1 : number(p);
            same("refer(" + r + ", " + p + ", " + variable + ", " + fallback + ")",
                () -> house.refer(r, p, variable, fallback), () -> model.refer(r, p, variable, fallback));
        } else if (any(3) == 0) {
            same("empty(" + r + ")", () -> house.empty(r), () -> model.empty(r));
        }
        compareAll();
    }

    private interface Call {
        int answer();
    }

    private static String tell(Call call) {
        try {
            return Integer.toString(call.answer());
        } catch (RuntimeException e) {
            return e.getClass().getSimpleName();
        }
    }

    private void same(String what, Call ours, Call theirs) {
        String due = tell(theirs);
        calls.add("  " + what + " -> " + due);
        Check.due(what, tell(ours), due);
    }

    private void compareAll() {
        Check.due("elements()", house.elements(), model.nodes.size());
        Check.due("reached()", house.reached(), model.reached);
        for (int e : model.nodes.keySet()) {
            for (int p = 0; p < 14; p++) {
                int value = model.value(e, p);
                Check.due("value(" + e + ", " + p + ")", house.value(e, p), value);
                Check.due("from(" + e + ", " + p + ")", house.from(e, p), model.from(e, p));
                if (any(8) == 0) {
                    Check.due("valueAnew(" + e + ", " + p + ")", house.valueAnew(e, p), value);
                }
            }
            for (int what = 0; what < 4; what++) {
                int measure = model.box(e, what);
                Check.due("box(" + e + ", " + what + ")", house.box(e, what), measure);
                if (any(4) == 0) {
                    Check.due("boxAnew(" + e + ", " + what + ")", house.boxAnew(e, what), measure);
                }
            }
            Check.due("lines(" + e + ")", house.lines(e), model.lines(e));
            for (int r = 0; r < model.sheets.size(); r++) {
                Check.due("fits(" + r + ", " + e + ")", house.fits(r, e), model.fits(r, e));
            }
        }
        for (int r = 0; r < model.sheets.size(); r++) {
            Check.due("weight(" + r + ")", house.weight(r), model.weight(r));
        }
        int e = some(-3, model.next + 2);
        int r = some(-3, 17);
        int p = some(-2, 15);
        int w = some(-2, 5);
        same("value?(" + e + ", " + p + ")", () -> house.value(e, p), () -> model.value(e, p));
        same("valueAnew?(" + e + ", " + p + ")", () -> house.valueAnew(e, p), () -> model.value(e, p));
        same("from?(" + e + ", " + p + ")", () -> house.from(e, p), () -> model.from(e, p));
        same("box?(" + e + ", " + w + ")", () -> house.box(e, w), () -> model.box(e, w));
        same("boxAnew?(" + e + ", " + w + ")", () -> house.boxAnew(e, w), () -> model.box(e, w));
        same("lines?(" + e + ")", () -> house.lines(e), () -> model.lines(e));
        same("fits?(" + r + ", " + e + ")", () -> house.fits(r, e) ? 1 : 0, () -> model.fits(r, e) ? 1 : 0);
        same("weight?(" + r + ")", () -> house.weight(r), () -> model.weight(r));
        for (int k = 0; k < 8; k++) {
            calls.remove(calls.size() - 1);
        }
    }
}
