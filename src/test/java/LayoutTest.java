/**
 * The boundary cases that the sentences under "Layout" name: what just fits and what does not by one, what is empty,
 * what is left over, what has no box; each worked out by hand.
 */
public final class LayoutTest {
    private static final int NONE = CascadeHouse.NONE, AUTO = CascadeHouse.AUTO;
    private static final int WIDTH = 0, HEIGHT = 1, MOST = 2, ABOVE = 3, BEHIND = 4, DISPLAY = 5, GROW = 6, TRACKS = 7,
        SIZE = 9, MARGIN = 14;
    private static final int BLOCK = 0, ROW = 1, GRID = 2, NOTHING = 3;
    private static final int AUTHOR = 1;

    public static void main(String[] args) {
        theRoot();
        mostOfTheRoot();
        mostOfChildren();
        heights();
        linesThatJustFit();
        linesBySize();
        textOnTop();
        noChildren();
        marginsThatMeet();
        marginsRoundWhatHasNoBox();
        blockWidths();
        rowWidths();
        rowsThatJustFit();
        onlyGrowGrows();
        oneMoreEach();
        justAsWideAsMost();
        frozenOneByOne();
        frozenInOneRound();
        frozenAltogether();
        mostAheadOfTheRest();
        rowHeights();
        columns();
        gridRows();
        gridOfNoWidth();
        withoutBoxes();
        fromTheLeftAndTheTopOfAll();
        Check.end();
    }

    private static void due(String what, long got, long want) {
        Check.due(what, got, want);
    }

    private static void boxDue(String what, CascadeHouse x, int element, int left, int top, int width, int height) {
        int[] measures = {left, top, width, height};
        for (int k = 0; k < 4; k++) {
            due(what + ": box(" + element + ", " + k + ")", x.box(element, k), measures[k]);
            due(what + ": boxAnew(" + element + ", " + k + ")", x.boxAnew(element, k), measures[k]);
        }
    }

    /** The widths of the children 1 and on. */
    private static void widthsDue(String what, CascadeHouse x, int... widths) {
        int left = x.box(0, 0);
        for (int k = 0; k < widths.length; k++) {
            due(what + ": width of " + (k + 1), x.box(k + 1, 2), widths[k]);
            due(what + ": left of " + (k + 1), x.box(k + 1, 0), left);
            left += widths[k];
        }
    }

    /** The root of the tag 0 and as many children, of the tags 1 and on; a rule of each tag's number for each tag. */
    private static CascadeHouse house(int display, int children) {
        CascadeHouse x = new CascadeHouse();
        for (int tag = 0; tag <= children; tag++) {
            if (tag > 0) {
                x.add(0, tag, 0);
            }
            x.rule(tag, 0, 0, AUTHOR, 0, false);
        }
        x.declare(0, DISPLAY, display);
        return x;
    }

    // ---- what holds for all boxes

    private static void theRoot() {
        CascadeHouse x = house(BLOCK, 0);
        x.declare(0, MARGIN, 100);
        x.declare(0, GROW, 9);
        boxDue("margins do not move it", x, 0, 0, 0, 100, 0);
        for (int width : new int[] {0, 1, 99, 101, 2000}) {
            x.declare(0, WIDTH, width);
            boxDue("by its WIDTH", x, 0, 0, 0, width, 0);
        }
        x.declare(0, WIDTH, AUTO);
        boxDue("by the window", x, 0, 0, 0, 100, 0);
        x.declare(0, DISPLAY, NOTHING);
        boxDue("no box", x, 0, NONE, NONE, NONE, NONE);
    }

    private static void mostOfTheRoot() {
        CascadeHouse x = house(BLOCK, 0);
        int[][] widths = {
            {AUTO, AUTO, 100}, {AUTO, 99, 99}, {AUTO, 100, 100}, {AUTO, 101, 100}, {AUTO, 0, 0}, {AUTO, 2000, 100},
            {2000, AUTO, 2000}, {2000, 1999, 1999}, {2000, 2000, 2000}, {50, 49, 49}, {50, 51, 50}, {0, 0, 0}, {0, 1, 0},
        };
        for (int[] one : widths) {
            x.declare(0, WIDTH, one[0]);
            x.declare(0, MOST, one[1]);
            due("WIDTH " + one[0] + ", MOST " + one[1], x.box(0, 2), one[2]);
        }
    }

    private static void mostOfChildren() {
        int[][] widths = {{9, 9}, {10, 10}, {11, 10}, {0, 0}, {AUTO, 10}};
        for (int[] one : widths) {
            CascadeHouse x = house(BLOCK, 1);
            x.window(10);
            x.declare(1, MOST, one[0]);
            due("in a BLOCK, MOST " + one[0], x.box(1, 2), one[1]);
            x.declare(1, WIDTH, 2000);
            due("with a WIDTH", x.box(1, 2), one[0] == AUTO ? 2000 : one[0]);
            x.declare(0, DISPLAY, GRID);
            due("in a GRID neither matters", x.box(1, 2), 10);
            x.declare(0, DISPLAY, ROW);
            due("in a ROW", x.box(1, 2), one[0] == AUTO ? 2000 : one[0]);
            x.declare(1, WIDTH, 0);
            x.declare(1, GROW, 1);
            due("by the rest", x.box(1, 2), one[1]);
        }
    }

    private static void heights() {
        for (int display = BLOCK; display <= GRID; display++) {
            CascadeHouse x = house(display, 1);
            x.declare(1, MARGIN, 100);
            x.declare(1, HEIGHT, 2000);
            x.text(0, 5);
            due("text, margins and a child", x.box(0, 3), 2201);
            x.declare(0, HEIGHT, 0);
            due("a HEIGHT of 0", x.box(0, 3), 0);
            due("it moves nothing", x.box(1, 1), 101);
            x.declare(0, HEIGHT, 2000);
            due("the greatest HEIGHT", x.box(0, 3), 2000);
            x.declare(0, HEIGHT, AUTO);
            due("as high as all of it again", x.box(0, 3), 2201);
            x.declare(1, HEIGHT, AUTO);
            due("nothing in the child", x.box(1, 3), 0);
            due("its margins alone", x.box(0, 3), 201);
        }
    }

    // ---- texts

    private static void linesThatJustFit() {
        // 8 words of 9 letters: two of them need 19, three 29, four 39, and so on
        int[][] lines = {
            {0, 8}, {1, 8}, {9, 8}, {18, 8}, {19, 4}, {28, 4}, {29, 3}, {38, 3}, {39, 2}, {68, 2}, {69, 2}, {78, 2}, {79, 1},
            {2000, 1},
        };
        CascadeHouse x = new CascadeHouse();
        x.text(0, 99999999);
        for (int[] one : lines) {
            x.window(one[0]);
            due("lines in " + one[0], x.lines(0), one[1]);
            due("height in " + one[0], x.box(0, 3), one[1]);
        }
        x.text(0, 1);
        x.window(0);
        due("one word stands in a line, fit or not", x.lines(0), 1);
        x.window(3);
        x.text(0, 11);
        due("1 and 1 and 1", x.lines(0), 1);
        x.window(2);
        due("one less", x.lines(0), 2);
        x.window(5);
        x.text(0, 1121);
        due("1 and 2 need 4, 1 begins a line, the last one fits there", x.lines(0), 2);
        x.text(0, 911);
        due("a word that is too wide has its own line", x.lines(0), 2);
        x.text(0, 119);
        due("and nothing stands behind it", x.lines(0), 2);
        x.text(0, 191);
        due("nor with it", x.lines(0), 3);
    }

    private static void linesBySize() {
        CascadeHouse x = house(BLOCK, 0);
        x.window(380);
        x.text(0, 99999999);
        x.declare(0, SIZE, 20);
        due("180 and 20 and 180 are 380", x.lines(0), 4);
        due("lines of 20", x.box(0, 3), 80);
        x.window(379);
        due("one less", x.lines(0), 8);
        due("8 lines of 20", x.box(0, 3), 160);
        x.declare(0, SIZE, 1);
        due("79 are enough", x.lines(0), 1);
        x.text(0, 0);
        due("without a text", x.lines(0), 0);
        due("without a height", x.box(0, 3), 0);
        x.declare(0, SIZE, 19);
        due("whatever the SIZE", x.box(0, 3), 0);
    }

    /** The text stands on top of the children, whatever the display. */
    private static void textOnTop() {
        for (int display = BLOCK; display <= GRID; display++) {
            CascadeHouse x = house(display, 2);
            x.declare(0, SIZE, 3);
            x.window(9);
            x.text(0, 111);
            x.declare(0, TRACKS, 2);
            due("3 and 3 and 3 are 9", x.lines(0), 2);
            due("the first child below two lines", x.box(1, 1), 6);
            due("the second one, too, as there is no height", x.box(2, 1), 6);
            x.declare(1, ABOVE, 1);
            due("by its ABOVE", x.box(1, 1), 7);
            due("as high as all", x.box(0, 3), 7);
        }
    }

    // ---- blocks

    private static void noChildren() {
        for (int display = BLOCK; display <= GRID; display++) {
            CascadeHouse x = house(display, 1);
            x.declare(0, TRACKS, 6);
            x.text(0, 11);
            boxDue("one of no height", x, 0, 0, 0, 100, 1);
            x.remove(1);
            boxDue("the text alone", x, 0, 0, 0, 100, 1);
            x.text(0, 0);
            boxDue("nothing in it", x, 0, 0, 0, 100, 0);
        }
    }

    private static void marginsThatMeet() {
        // BEHIND of the first one, ABOVE of the second one, what is between them
        int[][] margins = {{0, 0, 0}, {5, 0, 5}, {0, 5, 5}, {5, 5, 5}, {5, 4, 5}, {4, 5, 5}, {100, 100, 100}, {100, 99, 100}, {0, 100, 100}};
        for (int[] one : margins) {
            CascadeHouse x = house(BLOCK, 2);
            x.declare(1, HEIGHT, 10);
            x.declare(2, HEIGHT, 20);
            x.declare(1, ABOVE, 3);
            x.declare(1, BEHIND, one[0]);
            x.declare(2, ABOVE, one[1]);
            x.declare(2, BEHIND, 7);
            String what = one[0] + " and " + one[1];
            boxDue(what, x, 1, 0, 3, 100, 10);
            boxDue(what, x, 2, 0, 13 + one[2], 100, 20);
            boxDue(what, x, 0, 0, 0, 100, 33 + one[2] + 7);
        }
        CascadeHouse x = house(BLOCK, 2);
        x.declare(1, MARGIN, 30);
        x.declare(2, MARGIN, 20);
        boxDue("one of no height keeps its margins apart", x, 1, 0, 30, 100, 0);
        boxDue("the next one", x, 2, 0, 60, 100, 0);
        boxDue("all of them", x, 0, 0, 0, 100, 80);
        x.remove(2);
        boxDue("the last one's BEHIND", x, 0, 0, 0, 100, 60);
    }

    private static void marginsRoundWhatHasNoBox() {
        CascadeHouse x = house(BLOCK, 3);
        x.declare(1, BEHIND, 6);
        x.declare(2, MARGIN, 50);
        x.declare(3, ABOVE, 8);
        x.declare(3, BEHIND, 2);
        due("behind one of no height", x.box(3, 1), 100);
        x.declare(2, DISPLAY, NOTHING);
        due("behind one without a box", x.box(3, 1), 8);
        due("all of them", x.box(0, 3), 10);
        x.declare(1, DISPLAY, NOTHING);
        due("the first one that has a box", x.box(3, 1), 8);
        x.declare(3, DISPLAY, NOTHING);
        due("none has a box", x.box(0, 3), 0);
        x.declare(1, DISPLAY, BLOCK);
        due("the last one that has a box", x.box(0, 3), 6);
    }

    private static void blockWidths() {
        CascadeHouse x = house(BLOCK, 1);
        for (int width : new int[] {0, 99, 100, 101, 2000}) {
            x.declare(1, WIDTH, width);
            boxDue("by its WIDTH", x, 1, 0, 0, width, 0);
            boxDue("its parent's is as it was", x, 0, 0, 0, 100, 0);
        }
        x.declare(1, WIDTH, AUTO);
        x.text(1, 99);
        x.contain(1, true);
        x.declare(1, GROW, 9);
        boxDue("as its parent", x, 1, 0, 0, 100, 1);
        x.window(0);
        boxDue("as its parent", x, 1, 0, 0, 0, 2);
    }

    // ---- rows

    private static void rowWidths() {
        int[][] widest = {{0, 0}, {1, 1}, {9, 9}, {19, 9}, {91, 9}, {12345678, 8}, {11111112, 2}, {21111111, 2}, {11131111, 3}};
        for (int[] one : widest) {
            CascadeHouse x = house(ROW, 2);
            x.text(1, one[0]);
            widthsDue("text " + one[0], x, one[1], 0);
            x.declare(1, SIZE, 20);
            widthsDue("of the greatest SIZE", x, 20 * one[1], 0);
            x.contain(1, true);
            widthsDue("a container", x, 0, 0);
            x.declare(1, WIDTH, 5);
            widthsDue("a container with a WIDTH", x, 5, 0);
            x.contain(1, false);
            widthsDue("WIDTH is ahead of the words", x, 5, 0);
            x.declare(1, WIDTH, 0);
            widthsDue("a WIDTH of 0", x, 0, 0);
        }
        CascadeHouse x = house(ROW, 1);
        x.add(1, 0, 0);
        x.text(2, 9);
        widthsDue("what its children have does not matter", x, 0);
    }

    /** The rest is shared if the row is wider than all of them, be it by 1. */
    private static void rowsThatJustFit() {
        CascadeHouse x = house(ROW, 2);
        x.declare(1, WIDTH, 30);
        x.declare(2, WIDTH, 40);
        x.declare(2, GROW, 1);
        int[][] widths = {{69, 40}, {70, 40}, {71, 41}, {72, 42}, {0, 40}, {2000, 1970}};
        for (int[] one : widths) {
            x.window(one[0]);
            widthsDue("in " + one[0], x, 30, one[1]);
        }
        x.declare(1, GROW, 9);
        x.window(69);
        widthsDue("none shrinks", x, 30, 40);
        x.window(71);
        widthsDue("1 for the first one", x, 31, 40);
        x.window(80);
        widthsDue("9 and 1", x, 39, 41);
    }

    private static void onlyGrowGrows() {
        CascadeHouse x = house(ROW, 3);
        x.text(2, 4);
        widthsDue("none has a GROW", x, 0, 4, 0);
        x.declare(3, GROW, 1);
        widthsDue("one has", x, 0, 4, 96);
        x.declare(3, GROW, 9);
        widthsDue("the greatest GROW, alone", x, 0, 4, 96);
        x.declare(1, GROW, 0);
        widthsDue("0 is none", x, 0, 4, 96);
        x.declare(1, GROW, 3);
        widthsDue("3 to 9", x, 24, 4, 72);
        x.declare(3, DISPLAY, NOTHING);
        widthsDue("without a box it takes no part", x, 96, 4);
    }

    /** What rounding leaves goes to the first ones with a GROW, in order, 1 each. */
    private static void oneMoreEach() {
        int[] grow = {0, 1, 0, 1, 1, 1};
        CascadeHouse x = house(ROW, 5);
        for (int k = 1; k <= 5; k++) {
            x.declare(k, GROW, grow[k]);
        }
        int[][] widths = {
            {0, 0, 0, 0}, {1, 1, 0, 0}, {2, 1, 1, 0}, {3, 1, 1, 1}, {4, 1, 1, 1}, {5, 2, 1, 1}, {6, 2, 2, 1}, {7, 2, 2, 2},
        };
        for (int[] one : widths) {
            x.window(one[0]);
            int last = one[0] - one[1] - one[2] - one[3];
            widthsDue(one[0] + " by four", x, one[1], 0, one[2], one[3], last);
        }
        x.declare(1, GROW, 9);
        // 11 by 12: 8.25 and 0.9 three times; 3 are left, for the first three with a GROW
        x.window(11);
        widthsDue("11 by 12", x, 9, 0, 1, 1, 0);
    }

    /** One that would be just as wide as MOST is not frozen; the others' rest may leave less for it then. */
    private static void justAsWideAsMost() {
        CascadeHouse x = house(ROW, 3);
        x.window(23);
        x.declare(1, GROW, 6);
        x.declare(2, GROW, 1);
        x.declare(3, GROW, 3);
        x.declare(2, MOST, 3);
        // 13.8, 2.3 and 6.9; 2 are left: 14, 3 and 6
        widthsDue("one of them is just as wide as it may be", x, 14, 3, 6);
        x.declare(3, MOST, 6);
        widthsDue("and another one", x, 14, 3, 6);
        x.declare(3, MOST, 3);
        // the third one is frozen at 3; 20 by 7: 17.1 and 2.9; 1 is left: 18 and 2
        widthsDue("only what would be wider is frozen", x, 18, 2, 3);
        x.declare(2, MOST, 2);
        // both would be wider: both are frozen, and the first one has 18
        widthsDue("both are frozen", x, 18, 2, 3);
        x.declare(2, MOST, 1);
        widthsDue("both are frozen", x, 19, 1, 3);
    }

    /** Each round freezes one: what it leaves makes the next one too wide. */
    private static void frozenOneByOne() {
        CascadeHouse x = house(ROW, 4);
        x.window(40);
        for (int k = 1; k <= 4; k++) {
            x.declare(k, GROW, 1);
        }
        widthsDue("none is frozen", x, 10, 10, 10, 10);
        x.declare(3, MOST, 4);
        widthsDue("one is frozen, 36 by three", x, 12, 12, 4, 12);
        x.declare(1, MOST, 11);
        widthsDue("another one behind it, 25 by two", x, 11, 13, 4, 12);
        x.declare(4, MOST, 12);
        widthsDue("just as wide as it may be", x, 11, 13, 4, 12);
        x.declare(4, MOST, 11);
        widthsDue("two at once, 14 for the last one", x, 11, 14, 4, 11);
        x.declare(2, MOST, 14);
        widthsDue("the last one is just as wide", x, 11, 14, 4, 11);
        x.declare(2, MOST, 13);
        widthsDue("all are frozen, 1 is left", x, 11, 13, 4, 11);
        x.declare(1, GROW, 0);
        widthsDue("what does not grow takes no part", x, 0, 13, 4, 11);
    }

    /** All that would be too wide are frozen before the rest is shared anew, be it too wide by 1 more alone. */
    private static void frozenInOneRound() {
        int[] grow = {0, 2, 3, 1, 9, 7};
        CascadeHouse x = house(ROW, 5);
        x.window(34);
        for (int k = 1; k <= 5; k++) {
            x.declare(k, GROW, grow[k]);
        }
        // by 22: 3.1, 4.6, 1.5, 13.9 and 10.8; 3 are left
        widthsDue("none is frozen", x, 4, 5, 2, 13, 10);
        x.declare(5, MOST, 8);
        // 26 by 15: 3.5, 5.2, 1.7 and 15.6; 2 are left
        widthsDue("the last one is", x, 4, 6, 1, 15, 8);
        x.declare(3, MOST, 1);
        // 25 by 14: 3.6, 5.4 and 16.1; 1 is left
        widthsDue("the third one, too, though it would not be later", x, 4, 5, 1, 16, 8);
        CascadeHouse y = house(ROW, 5);
        y.window(4);
        int[] growths = {0, 9, 9, 5, 7, 7};
        for (int k = 1; k <= 5; k++) {
            y.declare(k, GROW, growths[k]);
        }
        widthsDue("1 more for the first four", y, 1, 1, 1, 1, 0);
        y.declare(4, MOST, 0);
        // 4 by 30: 1.2, 1.2, 0.7 and 0.9; 2 are left
        widthsDue("the fourth one is", y, 2, 2, 0, 0, 0);
        y.declare(3, MOST, 0);
        // 4 by 25: 1.4, 1.4 and 1.1; 1 is left
        widthsDue("the third one, too, though neither is too wide once the other one is frozen", y, 2, 1, 0, 0, 1);
    }

    private static void frozenAltogether() {
        CascadeHouse x = house(ROW, 3);
        for (int k = 1; k <= 3; k++) {
            x.declare(k, GROW, 10 - k);
            x.declare(k, MOST, 5 * k);
        }
        widthsDue("all are frozen at once", x, 5, 10, 15);
        x.declare(2, MOST, 0);
        widthsDue("at 0", x, 5, 0, 15);
        x.declare(1, MOST, AUTO);
        widthsDue("all of the rest", x, 85, 0, 15);
        x.declare(1, DISPLAY, NOTHING);
        due("the only one that is not", x.box(2, 2) + x.box(3, 2), 15);
    }

    /** MOST is the most that a box is wide, before the rest is shared, too. */
    private static void mostAheadOfTheRest() {
        CascadeHouse x = house(ROW, 2);
        x.declare(1, WIDTH, 90);
        x.declare(1, MOST, 20);
        widthsDue("without a GROW", x, 20, 0);
        x.declare(2, GROW, 2);
        widthsDue("80 are left", x, 20, 80);
        x.declare(1, GROW, 9);
        widthsDue("it cannot grow", x, 20, 80);
        x.declare(1, WIDTH, AUTO);
        x.text(1, 9);
        x.declare(1, SIZE, 3);
        widthsDue("words that are wider", x, 20, 80);
        x.declare(1, MOST, 26);
        widthsDue("by one", x, 26, 74);
        x.declare(1, MOST, 27);
        widthsDue("just as wide", x, 27, 73);
    }

    private static void rowHeights() {
        CascadeHouse x = house(ROW, 3);
        x.text(0, 1);
        for (int k = 1; k <= 3; k++) {
            x.declare(k, HEIGHT, 10 * k);
            x.declare(k, WIDTH, 5);
        }
        boxDue("the highest one", x, 0, 0, 0, 100, 31);
        x.declare(2, ABOVE, 10);
        boxDue("just as high with its ABOVE", x, 0, 0, 0, 100, 31);
        x.declare(2, ABOVE, 11);
        boxDue("higher with its ABOVE", x, 0, 0, 0, 100, 32);
        x.declare(1, BEHIND, 21);
        boxDue("just as high with its BEHIND", x, 0, 0, 0, 100, 32);
        x.declare(1, BEHIND, 22);
        boxDue("higher with its BEHIND", x, 0, 0, 0, 100, 33);
        x.declare(1, ABOVE, 1);
        boxDue("with both", x, 0, 0, 0, 100, 34);
        boxDue("each by its own ABOVE", x, 1, 0, 2, 5, 10);
        boxDue("each by its own ABOVE", x, 2, 5, 12, 5, 20);
        boxDue("each by its own ABOVE", x, 3, 10, 1, 5, 30);
        x.declare(1, DISPLAY, NOTHING);
        boxDue("of those with a box", x, 0, 0, 0, 100, 32);
        boxDue("of those with a box", x, 2, 0, 12, 5, 20);
    }

    // ---- grids

    private static void columns() {
        int[][] widths = {
            {1, 7, 7}, {2, 7, 4, 3}, {3, 7, 3, 2, 2}, {4, 7, 2, 2, 2, 1}, {5, 7, 2, 2, 1, 1, 1}, {6, 7, 2, 1, 1, 1, 1, 1},
            {6, 6, 1, 1, 1, 1, 1, 1}, {6, 5, 1, 1, 1, 1, 1, 0}, {6, 1, 1, 0, 0, 0, 0, 0}, {6, 0, 0, 0, 0, 0, 0, 0},
            {3, 2000, 667, 667, 666}, {1, 2000, 2000}, {6, 2000, 334, 334, 333, 333, 333, 333}, {2, 2000, 1000, 1000},
        };
        for (int[] one : widths) {
            int tracks = one[0];
            CascadeHouse x = new CascadeHouse();
            x.window(one[1]);
            x.rule(0, 0, 0, AUTHOR, 0, false);
            x.declare(0, DISPLAY, GRID);
            x.declare(0, TRACKS, tracks);
            x.rule(1, 0, 0, AUTHOR, 0, false);
            x.declare(1, HEIGHT, 10);
            for (int k = 0; k < 2 * tracks + 1; k++) {
                int made = x.add(0, 1, 0);
                int left = 0;
                for (int column = 0; column < k % tracks; column++) {
                    left += one[2 + column];
                }
                boxDue(tracks + " tracks in " + one[1], x, made, left, k / tracks * 10, one[2 + k % tracks], 10);
                due("a row a begun " + tracks, x.box(0, 3), (k / tracks + 1) * 10);
            }
        }
    }

    private static void gridRows() {
        CascadeHouse x = house(GRID, 4);
        x.declare(0, TRACKS, 2);
        for (int k = 1; k <= 4; k++) {
            x.declare(k, HEIGHT, 10);
        }
        x.declare(1, BEHIND, 5);
        x.declare(2, ABOVE, 5);
        boxDue("both are as high", x, 3, 0, 15, 50, 10);
        x.declare(2, ABOVE, 6);
        boxDue("one is higher", x, 3, 0, 16, 50, 10);
        x.declare(4, ABOVE, 100);
        boxDue("ABOVE does not meet the row ahead", x, 4, 50, 116, 50, 10);
        boxDue("each by its own", x, 3, 0, 16, 50, 10);
        boxDue("all rows", x, 0, 0, 0, 100, 126);
        x.declare(3, BEHIND, 100);
        boxDue("just as high", x, 0, 0, 0, 100, 126);
        x.declare(3, HEIGHT, 11);
        boxDue("one higher", x, 0, 0, 0, 100, 127);
        x.declare(1, DISPLAY, NOTHING);
        boxDue("without a box it takes no column", x, 2, 0, 6, 50, 10);
        boxDue("the next one follows", x, 3, 50, 0, 50, 11);
        boxDue("a row of one", x, 4, 0, 211, 50, 10);
        boxDue("all rows", x, 0, 0, 0, 100, 221);
        x.declare(4, DISPLAY, NOTHING);
        boxDue("one row, just full", x, 0, 0, 0, 100, 111);
    }

    private static void gridOfNoWidth() {
        CascadeHouse x = house(GRID, 2);
        x.declare(0, WIDTH, 0);
        x.declare(0, TRACKS, 6);
        x.text(1, 12);
        x.declare(2, WIDTH, 50);
        boxDue("a column of no width", x, 1, 0, 0, 0, 2);
        boxDue("whatever its WIDTH", x, 2, 0, 0, 0, 0);
        boxDue("the row", x, 0, 0, 0, 0, 2);
        x.declare(0, TRACKS, 1);
        boxDue("a row each", x, 2, 0, 2, 0, 0);
    }

    // ---- boxes that are none, and where boxes are

    private static void withoutBoxes() {
        for (int display = BLOCK; display <= GRID; display++) {
            CascadeHouse x = house(display, 3);
            x.add(2, 0, 0);
            x.text(2, 9);
            x.text(4, 9);
            x.declare(2, DISPLAY, NOTHING);
            x.declare(2, MARGIN, 100);
            for (int e : new int[] {2, 4}) {
                boxDue("none, nor one below it", x, e, NONE, NONE, NONE, NONE);
                due("no lines", x.lines(e), 0);
            }
            boxDue("the next one is where it would be", x, 3, 0, 0, display == ROW ? 0 : 100, 0);
            boxDue("all of them", x, 0, 0, 0, 100, 0);
            x.declare(2, DISPLAY, BLOCK);
            due("lines again", x.lines(2), 1);
            due("lines below it", x.lines(4), 1);
            x.declare(0, DISPLAY, NOTHING);
            for (int e = 0; e <= 4; e++) {
                boxDue("none at all", x, e, NONE, NONE, NONE, NONE);
                due("no lines at all", x.lines(e), 0);
            }
        }
    }

    /** A chain of 24 boxes, each as far from the top of all as all margins above it make. */
    private static void fromTheLeftAndTheTopOfAll() {
        CascadeHouse x = new CascadeHouse();
        for (int k = 1; k < 24; k++) {
            x.add(k - 1, 1, 0);
        }
        x.rule(1, 0, 0, AUTHOR, 0, false);
        x.declare(0, ABOVE, 100);
        x.declare(0, BEHIND, 50);
        for (int k = 0; k < 24; k++) {
            due("top of " + k, x.box(k, 1), 100 * k);
            due("height of " + k, x.box(k, 3), 150 * (23 - k));
        }
        CascadeHouse y = house(ROW, 2);
        y.declare(1, WIDTH, 40);
        y.declare(2, WIDTH, 30);
        y.declare(2, DISPLAY, GRID);
        y.declare(2, TRACKS, 2);
        y.add(2, 3, 0);
        y.add(2, 3, 0);
        y.add(4, 3, 0);
        boxDue("the first column of the second one", y, 3, 40, 0, 15, 0);
        boxDue("the second column", y, 4, 55, 0, 15, 0);
        boxDue("and what is in it", y, 5, 55, 0, 15, 0);
    }
}
