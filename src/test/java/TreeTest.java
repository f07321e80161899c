/** Promises 1 to 24: the tree and what is asked of it. */
public final class TreeTest {
    private static final Checks checks = new Checks("TreeTest");
    private static final int GROUP = BrailleDesk.GROUP, TEXT = BrailleDesk.TEXT, BUTTON = BrailleDesk.BUTTON;
    private static final int CHECK = BrailleDesk.CHECK, EDIT = BrailleDesk.EDIT, TABLE = BrailleDesk.TABLE;
    private static final int ROW = BrailleDesk.ROW, LIVE = BrailleDesk.LIVE;
    private static final int LESS = BrailleDesk.LESS, PLAIN = BrailleDesk.PLAIN, MORE = BrailleDesk.MORE;
    private static final int NONE = BrailleDesk.NONE;

    public static void main(String[] args) {
        newObject();
        draft();
        add();
        kindsOfChildren();
        room();
        remove();
        hide();
        rename();
        set();
        setRule();
        setManner();
        asking();
        reading();
        checks.finish();
    }

    private static void newObject() {
        BrailleDesk desk = new BrailleDesk();
        checks.same("1: elements", 1, desk.elements());
        checks.same("1: kind of the screen", GROUP, desk.kind(0));
        checks.same("1: parent of the screen", NONE, desk.parent(0));
        checks.same("1: children of the screen", 0, desk.children(0));
        checks.same("1: name of the screen", 0, desk.nameLength(0));
        checks.same("1: level of the screen", PLAIN, desk.level(0));
        checks.same("1: the screen is shown", true, desk.isShown(0));
        checks.same("1: reading", 1, desk.reading());
        checks.same("1: cursor", 0, desk.cursor());
        checks.same("1: focus", NONE, desk.focus());
        checks.same("1: typing", false, desk.isTyping());
        checks.same("1: offset", 0, desk.offset());
        checks.same("1: line", 1, desk.lineLength());
        checks.same("1: pin", 27 + 192, desk.pin(0));
        checks.same("1: speaking", NONE, desk.speaking());
        checks.same("1: left", 0, desk.left());
        checks.same("1: time", 0, desk.time());
        checks.same("1: heard", 0, desk.heard());
        checks.same("1: dropped", 0, desk.dropped());
        checks.same("1: swallowed", 0, desk.swallowed());
        for (int priority = 0; priority < 3; priority++) {
            checks.same("1: waiting " + priority, 0, desk.waiting(priority));
        }
        checks.same("1: empty draft", 1, desk.draft('a'));
        checks.same("1: no key is pressed", 1, desk.press(0));
    }

    private static void draft() {
        Bench bench = new Bench();
        int[] good = {32, 126, 119040, 119295, 'a', '0'};
        for (int i = 0; i < good.length; i++) {
            checks.same("2: draft " + good[i], i + 1, bench.desk.draft(good[i]));
        }
        for (int bad : new int[] {31, 127, 119039, 119296, 0, -1, Integer.MIN_VALUE, Integer.MAX_VALUE}) {
            checks.argument("2: draft " + bad, () -> bench.desk.draft(bad));
        }
        for (int i = 7; i <= 12; i++) {
            checks.same("2: draft to " + i, i, bench.desk.draft('x'));
        }
        checks.state("2: a full draft", () -> bench.desk.draft('y'));
        checks.argument("2: a full draft, and no character", () -> bench.desk.draft(31));
        checks.same("3: takes all of the draft", 1, bench.desk.add(0, 0, TEXT));
        checks.same("3: its name", " ~\uD834\uDD00\uD834\uDDFFa0xxxxxx", bench.name(1));
        checks.same("3: the draft is empty then", 1, bench.desk.draft('x'));
    }

    private static void add() {
        Bench bench = new Bench();
        checks.same("3: first", 1, bench.add(0, GROUP, "a"));
        checks.same("3: behind", 2, bench.addAt(0, 1, BUTTON, "b"));
        checks.same("3: ahead of all", 3, bench.addAt(0, 0, LIVE, ""));
        checks.same("3: between", 4, bench.addAt(0, 2, CHECK, "c"));
        checks.same("3: children by places", "3 1 4 2", bench.children(0));
        checks.same("3: below", 5, bench.add(1, EDIT, "d"));
        checks.same("3: parent", 1, bench.desk.parent(5));
        checks.same("3: elements", 6, bench.desk.elements());
        checks.same("3: an empty draft makes an empty name", 0, bench.desk.nameLength(3));
        checks.index("3: no parent", () -> bench.desk.add(6, 0, TEXT));
        checks.index("3: no parent -1", () -> bench.desk.add(-1, 0, TEXT));
        checks.index("3: no parent 40", () -> bench.desk.add(40, 0, TEXT));
        checks.index("3: no parent, nor place", () -> bench.desk.add(6, 7, 9));
        checks.argument("3: place -1", () -> bench.desk.add(0, -1, TEXT));
        checks.argument("3: place too great", () -> bench.desk.add(0, 5, TEXT));
        checks.argument("3: kind -1", () -> bench.desk.add(0, 0, -1));
        checks.argument("3: kind 8", () -> bench.desk.add(0, 0, 8));
        checks.argument("3: place beyond a BUTTON's none", () -> bench.desk.add(2, 1, TEXT));
        checks.state("3: below a BUTTON", () -> bench.desk.add(2, 0, TEXT));
        checks.same("3: still", 6, bench.desk.elements());
        bench.desk.remove(2);
        checks.index("3: below what is gone", () -> bench.desk.add(2, 0, TEXT));
        checks.same("3: numbers go on", 6, bench.add(0, TEXT, ""));
    }

    private static void kindsOfChildren() {
        String[] due = new String[8];
        due[GROUP] = "11111101";
        due[LIVE] = "11111101";
        due[TABLE] = "00000010";
        due[ROW] = "01111000";
        due[TEXT] = "00000000";
        due[BUTTON] = "00000000";
        due[CHECK] = "00000000";
        due[EDIT] = "00000000";
        for (int kind = GROUP; kind <= LIVE; kind++) {
            Bench bench = new Bench();
            int parent = kind == ROW ? bench.add(bench.add(0, TABLE, ""), ROW, "") : bench.add(0, kind, "");
            for (int child = GROUP; child <= LIVE; child++) {
                int childKind = child;
                Object got = Checks.answer(() -> bench.desk.add(parent, 0, childKind));
                boolean isTaken = due[kind].charAt(child) == '1';
                checks.same("3: in kind " + kind + " kind " + child + " can be", isTaken, got instanceof Integer);
                if (!isTaken) {
                    checks.same("3: in kind " + kind + " kind " + child, "throws.IllegalStateException", got);
                }
            }
        }
    }

    private static void room() {
        Bench bench = new Bench();
        for (int i = 0; i < 10; i++) {
            bench.add(0, GROUP, "");
        }
        checks.state("3: 10 children", () -> bench.desk.add(0, 10, TEXT));
        bench.desk.remove(10);
        checks.same("3: 10 children once more", 11, bench.add(0, TEXT, ""));
        for (int i = 12; i < 40; i++) {
            checks.same("3: up to 39", i, bench.add(1 + i % 3, TEXT, ""));
        }
        checks.state("3: 40 were made", () -> bench.desk.add(4, 0, TEXT));
        bench.desk.remove(39);
        checks.state("3: 40 were made, of which some are gone", () -> bench.desk.add(4, 0, TEXT));
        checks.argument("3: 40 were made, and no such kind", () -> bench.desk.add(4, 0, 8));
        checks.same("10: elements", 38, bench.desk.elements());
        Bench deep = new Bench();
        for (int i = 0; i < 39; i++) {
            deep.add(i, GROUP, "");
        }
        checks.same("24: forty levels", 39, deep.desk.readingAt(39));
        deep.desk.hide(1, true);
        checks.same("23: all but the screen hidden", 1, deep.desk.reading());
        checks.same("4: forty levels", 39, deep.desk.remove(1));
    }

    private static void remove() {
        Bench bench = tree();
        checks.index("4: no such element", () -> bench.desk.remove(8));
        checks.index("4: no element -1", () -> bench.desk.remove(-1));
        checks.state("4: the screen", () -> bench.desk.remove(0));
        bench.desk.hide(4, true);
        checks.same("4: with all below it, shown or not", 4, bench.desk.remove(2));
        checks.same("4: the rest", 4, bench.desk.elements());
        checks.same("4: the other children", "1 6", bench.children(0));
        for (int gone = 2; gone <= 5; gone++) {
            int element = gone;
            checks.index("4: gone is " + gone, () -> bench.desk.kind(element));
            checks.index("4: gone twice " + gone, () -> bench.desk.remove(element));
        }
        checks.same("4: one alone", 1, bench.desk.remove(1));
        checks.same("4: the order then", "0 6 7", bench.order());
    }

    private static void hide() {
        Bench bench = tree();
        checks.same("5: hides", false, bench.desk.hide(3, true));
        checks.same("5: hides again", true, bench.desk.hide(3, true));
        checks.same("21: what is hidden", false, bench.desk.isShown(3));
        checks.same("21: what is below it", false, bench.desk.isShown(5));
        checks.same("21: what is beside it", true, bench.desk.isShown(4));
        checks.same("24: without what is hidden", "0 1 2 4 6 7", bench.order());
        checks.same("5: hides below what is hidden", false, bench.desk.hide(5, true));
        checks.same("5: no more", true, bench.desk.hide(3, false));
        checks.same("5: no more again", false, bench.desk.hide(3, false));
        checks.same("21: shown again", true, bench.desk.isShown(3));
        checks.same("21: hidden on its own", false, bench.desk.isShown(5));
        checks.same("5: children stay", 1, bench.desk.children(3));
        checks.index("5: no such element", () -> bench.desk.hide(8, true));
        checks.state("5: the screen", () -> bench.desk.hide(0, true));
        checks.state("5: the screen, not hidden", () -> bench.desk.hide(0, false));
    }

    private static void rename() {
        Bench bench = tree();
        checks.same("6: renames", 3, bench.rename(1, "xyz"));
        checks.same("6: its name", "xyz", bench.name(1));
        checks.same("6: by an empty draft", 0, bench.desk.rename(1));
        checks.same("6: its empty name", "", bench.name(1));
        checks.same("6: the others keep theirs", "two", bench.name(2));
        bench.draft("kept");
        checks.index("6: no such element", () -> bench.desk.rename(8));
        checks.state("6: the screen", () -> bench.desk.rename(0));
        checks.same("6: with the draft as it was", 4, bench.desk.rename(2));
        checks.same("2: empty then", 1, bench.desk.draft('a'));
    }

    private static void set() {
        Bench bench = tree();
        checks.same("7: on", false, bench.desk.set(4, true));
        checks.same("19: on", true, bench.desk.isOn(4));
        checks.same("7: on again", true, bench.desk.set(4, true));
        checks.same("7: off", true, bench.desk.set(4, false));
        checks.same("19: off", false, bench.desk.isOn(4));
        checks.same("7: off again", false, bench.desk.set(4, false));
        checks.index("7: no such element", () -> bench.desk.set(8, true));
        for (int other : new int[] {0, 1, 2, 3, 5, 6, 7}) {
            checks.state("7: no CHECK " + other, () -> bench.desk.set(other, true));
            checks.same("19: no CHECK " + other, false, bench.desk.isOn(other));
        }
    }

    private static void setRule() {
        Bench bench = tree();
        checks.same("8: none before", NONE, bench.desk.setRule(2, MORE));
        checks.same("22: its own", MORE, bench.desk.level(2));
        checks.same("22: of what is below", MORE, bench.desk.level(3));
        checks.same("22: two below", MORE, bench.desk.level(5));
        checks.same("22: beside it", PLAIN, bench.desk.level(1));
        checks.same("8: nearer", NONE, bench.desk.setRule(3, LESS));
        checks.same("22: the nearest rule", LESS, bench.desk.level(5));
        checks.same("8: of the screen", NONE, bench.desk.setRule(0, LESS));
        checks.same("22: by the screen", LESS, bench.desk.level(1));
        checks.same("8: before", LESS, bench.desk.setRule(3, NONE));
        checks.same("22: without a rule", MORE, bench.desk.level(5));
        checks.same("8: before, MORE", MORE, bench.desk.setRule(2, PLAIN));
        checks.same("8: before, PLAIN", PLAIN, bench.desk.setRule(2, NONE));
        checks.same("8: before, NONE", NONE, bench.desk.setRule(2, NONE));
        checks.same("22: the screen's rule for all", LESS, bench.desk.level(5));
        checks.argument("8: level -2", () -> bench.desk.setRule(2, -2));
        checks.argument("8: level 3", () -> bench.desk.setRule(2, 3));
        checks.index("8: no such element, nor level", () -> bench.desk.setRule(8, 3));
        checks.index("22: no such element", () -> bench.desk.level(8));
    }

    private static void setManner() {
        Bench bench = tree();
        checks.same("9: POLITE at first", BrailleDesk.POLITE, bench.desk.setManner(6, BrailleDesk.LOUD));
        checks.same("9: before", BrailleDesk.LOUD, bench.desk.setManner(6, BrailleDesk.QUIET));
        checks.same("9: before, QUIET", BrailleDesk.QUIET, bench.desk.setManner(6, BrailleDesk.QUIET));
        checks.index("9: no such element, nor manner", () -> bench.desk.setManner(8, 3));
        checks.argument("9: manner 3", () -> bench.desk.setManner(6, 3));
        checks.argument("9: manner -1", () -> bench.desk.setManner(6, -1));
        checks.argument("9: manner 3, and no LIVE", () -> bench.desk.setManner(0, 3));
        for (int other : new int[] {0, 1, 2, 3, 4, 5, 7}) {
            checks.state("9: no LIVE " + other, () -> bench.desk.setManner(other, BrailleDesk.LOUD));
        }
    }

    private static void asking() {
        Bench bench = tree();
        int[] kinds = {GROUP, TEXT, GROUP, GROUP, CHECK, EDIT, LIVE, BUTTON};
        int[] parents = {NONE, 0, 0, 2, 2, 3, 0, 6};
        for (int i = 0; i < 8; i++) {
            checks.same("11: kind of " + i, kinds[i], bench.desk.kind(i));
            checks.same("12: parent of " + i, parents[i], bench.desk.parent(i));
        }
        checks.same("13: children", 3, bench.desk.children(0));
        checks.same("13: no children", 0, bench.desk.children(1));
        bench.desk.hide(3, true);
        checks.same("14: children, shown or not", "3 4", bench.children(2));
        checks.index("14: place -1", () -> bench.desk.childAt(2, -1));
        checks.index("14: place 2", () -> bench.desk.childAt(2, 2));
        checks.index("14: place 10", () -> bench.desk.childAt(2, 10));
        checks.index("14: no such element", () -> bench.desk.childAt(8, 0));
        checks.same("15: length of a name", 3, bench.desk.nameLength(2));
        checks.same("16: its last character", (int) 'o', bench.desk.nameAt(2, 2));
        checks.index("16: index 3", () -> bench.desk.nameAt(2, 3));
        checks.index("16: index -1", () -> bench.desk.nameAt(2, -1));
        checks.index("16: no such element", () -> bench.desk.nameAt(8, 0));
        checks.same("17: no content at first", 0, bench.desk.contentLength(5));
        checks.same("17: of no EDIT", 0, bench.desk.contentLength(2));
        checks.index("18: no content", () -> bench.desk.contentAt(5, 0));
        checks.index("18: of no EDIT", () -> bench.desk.contentAt(2, 0));
        checks.index("18: no such element", () -> bench.desk.contentAt(8, 0));
        checks.same("20: never pressed", 0, bench.desk.presses(7));
        checks.same("20: no BUTTON", 0, bench.desk.presses(2));
        for (int none : new int[] {-1, 8, 39, 40, Integer.MAX_VALUE, Integer.MIN_VALUE}) {
            checks.index("11: kind of " + none, () -> bench.desk.kind(none));
            checks.index("12: parent of " + none, () -> bench.desk.parent(none));
            checks.index("13: children of " + none, () -> bench.desk.children(none));
            checks.index("15: length of the name of " + none, () -> bench.desk.nameLength(none));
            checks.index("17: length of the content of " + none, () -> bench.desk.contentLength(none));
            checks.index("19: is on " + none, () -> bench.desk.isOn(none));
            checks.index("20: presses of " + none, () -> bench.desk.presses(none));
            checks.index("21: is shown " + none, () -> bench.desk.isShown(none));
        }
        bench.desk.remove(7);
        checks.index("21: what is gone", () -> bench.desk.isShown(7));
    }

    private static void reading() {
        Bench bench = tree();
        checks.same("24: each ahead of its children", "0 1 2 3 5 4 6 7", bench.order());
        checks.same("23: how many", 8, bench.desk.reading());
        bench.addAt(0, 1, TEXT, "");
        checks.same("24: by rising places, not numbers", "0 1 8 2 3 5 4 6 7", bench.order());
        bench.desk.hide(2, true);
        checks.same("23: how many are shown", 5, bench.desk.reading());
        checks.same("24: shown ones alone", "0 1 8 6 7", bench.order());
        checks.index("24: not so many", () -> bench.desk.readingAt(5));
        checks.index("24: below 0", () -> bench.desk.readingAt(-1));
        checks.index("24: far more", () -> bench.desk.readingAt(Integer.MAX_VALUE));
    }

    /** The TEXT 1, the GROUP 2 (in it the GROUP 3 with the EDIT 5, and the CHECK 4), the LIVE 6 (with the BUTTON 7). */
    private static Bench tree() {
        Bench bench = new Bench();
        bench.add(0, TEXT, "one");
        bench.add(0, GROUP, "two");
        bench.add(2, GROUP, "three");
        bench.add(2, CHECK, "four");
        bench.add(3, EDIT, "five");
        bench.add(0, LIVE, "six");
        bench.add(6, BUTTON, "seven");
        return bench;
    }
}
