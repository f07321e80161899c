/** Promises 25 to 30: keys, chords, the cursor and the focus. */
public final class KeysTest {
    private static final Checks checks = new Checks("KeysTest");
    private static final int GROUP = BrailleDesk.GROUP, TEXT = BrailleDesk.TEXT, BUTTON = BrailleDesk.BUTTON;
    private static final int CHECK = BrailleDesk.CHECK, EDIT = BrailleDesk.EDIT, TABLE = BrailleDesk.TABLE;
    private static final int ROW = BrailleDesk.ROW, LIVE = BrailleDesk.LIVE;

    public static void main(String[] args) {
        pressing();
        chords();
        walking();
        inAndOut();
        upAndDown();
        heads();
        headsThatAreLeftOut();
        tab();
        act();
        letters();
        otherChords();
        lostCursor();
        lostFocus();
        checks.finish();
    }

    private static void pressing() {
        Bench bench = new Bench();
        BrailleDesk desk = bench.desk;
        bench.add(0, TEXT, "a");
        for (int none : new int[] {-1, 9, Integer.MAX_VALUE, Integer.MIN_VALUE, 32}) {
            checks.index("25: key " + none, () -> desk.press(none));
            checks.index("26: key " + none, () -> desk.release(none));
        }
        checks.state("26: not pressed", () -> desk.release(0));
        checks.same("25: one", 1, desk.press(8));
        checks.state("25: pressed twice", () -> desk.press(8));
        checks.same("25: two", 2, desk.press(3));
        checks.same("26: one left", 1, desk.release(8));
        checks.state("26: released twice", () -> desk.release(8));
        checks.same("26: not done yet", 0, desk.cursor());
        checks.state("27: a key is pressed", () -> desk.chord(257));
        checks.argument("27: a key is pressed, and no such keys", () -> desk.chord(0));
        checks.same("26: none left", 0, desk.release(3));
        checks.same("26: done: NEXT", 1, desk.cursor());
        desk.press(0);
        checks.same("25: another one", 2, desk.press(8));
        checks.same("26: the first released", 1, desk.release(0));
        checks.same("25: pressed again", 2, desk.press(0));
        desk.release(8);
        desk.release(0);
        checks.same("26: PREVIOUS, with the points that were", 0, desk.cursor());
        desk.press(3);
        desk.press(1);
        desk.release(1);
        desk.press(8);
        desk.release(3);
        desk.release(8);
        checks.same("26: all keys that were pressed count", 0, desk.cursor());
        desk.press(3);
        desk.release(3);
        desk.press(8);
        desk.release(8);
        checks.same("25: a chord begins anew", 0, desk.cursor());
        for (int key = 0; key < 9; key++) {
            checks.same("25: all keys", key + 1, desk.press(key));
        }
        for (int key = 0; key < 9; key++) {
            checks.same("26: all keys", 8 - key, desk.release(key));
        }
        checks.same("26: with all keys nothing is done", 0, desk.cursor());
    }

    private static void chords() {
        Bench bench = new Bench();
        bench.add(0, BUTTON, "a");
        for (int none : new int[] {0, -1, 512, Integer.MAX_VALUE, Integer.MIN_VALUE}) {
            checks.argument("27: keys " + none, () -> bench.desk.chord(none));
        }
        checks.same("27: the cursor then", 1, bench.desk.chord(264));
        checks.same("27: no key is pressed then", 1, bench.desk.press(0));
        checks.same("27: 1", 0, bench.desk.release(0));
        checks.same("27: 511", 1, bench.desk.chord(511));
        checks.same("27: 1", 1, bench.desk.chord(1));
    }

    private static void walking() {
        Bench bench = new Bench();
        bench.add(0, GROUP, "g");
        bench.add(1, TEXT, "a");
        bench.add(0, TEXT, "b");
        checks.same("28: cursor", 0, bench.desk.cursor());
        checks.same("27: PREVIOUS at the first", 0, bench.previous());
        checks.same("27: its answer", "end", bench.listen(9));
        checks.same("27: NEXT", 1, bench.next());
        checks.same("27: its words", "g group", bench.listen(9));
        checks.same("27: NEXT goes below", 2, bench.next());
        checks.same("27: NEXT comes up", 3, bench.next());
        checks.same("27: its words alone", "b", bench.listen(9));
        checks.same("27: NEXT at the last", 3, bench.next());
        checks.same("27: the answer at the last", "end", bench.listen(9));
        checks.same("27: PREVIOUS goes below", 2, bench.previous());
        bench.desk.hide(1, true);
        checks.same("28: not shown any more", 3, bench.desk.cursor());
        checks.same("27: PREVIOUS beyond what is hidden", 0, bench.previous());
        checks.same("27: NEXT beyond what is hidden", 3, bench.next());
        bench.listen(50);
        checks.same("27: AGAIN", 3, bench.again());
        checks.same("27: the words again", "b", bench.listen(9));
    }

    private static void inAndOut() {
        Bench bench = new Bench();
        bench.add(0, GROUP, "g");
        bench.add(1, TEXT, "a");
        bench.add(1, TEXT, "b");
        bench.next();
        bench.desk.hide(2, true);
        bench.listen(20);
        checks.same("27: IN to the first that is shown", 3, bench.in());
        checks.same("27: words by IN", "b", bench.listen(9));
        checks.same("27: IN where nothing is", 3, bench.in());
        checks.same("27: answer by IN", "none", bench.listen(9));
        checks.same("27: OUT", 1, bench.out());
        checks.same("27: words by OUT", "g group", bench.listen(9));
        bench.desk.hide(2, false);
        checks.same("27: IN to the first of two", 2, bench.in());
        bench.desk.hide(2, true);
        bench.listen(50);
        bench.out();
        bench.desk.hide(3, true);
        checks.same("27: IN where nothing is shown", 1, bench.in());
        checks.same("27: answer where nothing is shown", "none", bench.listen(9));
        checks.same("27: OUT to the screen", 0, bench.out());
        bench.listen(9);
        checks.same("27: OUT of the screen", 0, bench.out());
        checks.same("27: answer by OUT", "none", bench.listen(9));
    }

    /** A table 1 with the ROWs 2, 3, 4 and 5, these with the TEXTs aa ab, ba bb, ca, da db. */
    private static Bench table() {
        Bench bench = new Bench();
        bench.add(0, TABLE, "t");
        for (int row = 0; row < 4; row++) {
            bench.add(1, ROW, "");
        }
        bench.add(2, TEXT, "aa");
        bench.add(2, TEXT, "ab");
        bench.add(3, TEXT, "ba");
        bench.add(3, TEXT, "bb");
        bench.add(4, TEXT, "ca");
        bench.add(5, TEXT, "da");
        bench.add(5, TEXT, "db");
        return bench;
    }

    private static void upAndDown() {
        Bench bench = table();
        checks.same("27: UP in no ROW", 0, bench.up());
        checks.same("27: answer in no ROW", "none", bench.listen(9));
        bench.next();
        bench.next();
        checks.same("27: DOWN at a ROW itself", 2, bench.down());
        checks.same("27: answer at a ROW", "none", bench.listen(50));
        bench.next();
        bench.next();
        checks.same("27: at ab", 7, bench.desk.cursor());
        checks.same("27: DOWN", 9, bench.down());
        checks.same("27: DOWN beyond a ROW that is too short", 12, bench.down());
        bench.listen(50);
        checks.same("27: DOWN at the last ROW", 12, bench.down());
        checks.same("27: answer at the last ROW", "end", bench.listen(9));
        checks.same("27: UP beyond a ROW that is too short", 9, bench.up());
        bench.desk.hide(7, true);
        bench.listen(50);
        checks.same("27: UP where nothing is shown", 9, bench.up());
        checks.same("27: answer where nothing is shown", "end", bench.listen(9));
        bench.desk.hide(7, false);
        checks.same("27: UP", 7, bench.up());
        bench.desk.hide(3, true);
        checks.same("27: DOWN beyond a ROW that is hidden", 12, bench.down());
        bench.desk.hide(3, false);
        bench.desk.hide(9, true);
        checks.same("27: UP beyond a child that is hidden", 7, bench.up());
        bench.addAt(3, 0, TEXT, "new");
        checks.same("27: DOWN by places, shown or not", 8, bench.down());
        checks.same("27: UP by places", 7, bench.up());
        bench.desk.remove(8);
        checks.same("27: the places change", 12, bench.down());
    }

    private static void heads() {
        Bench bench = table();
        goTo(bench, 6);
        checks.same("27: another column, with its head", "ab", said(bench, bench.next()));
        checks.same("27: another row, with its head", "ba bb", said(bench, bench.down()));
        checks.same("27: another column", "aa ba", said(bench, bench.previous()));
        checks.same("27: back", "ab bb", said(bench, bench.next()));
        checks.same("27: to a ROW", "row", said(bench, bench.next()));
        checks.same("27: from a ROW", "ca", said(bench, bench.next()));
        checks.same("27: the head itself, by UP", "ba", said(bench, bench.up()));
        bench.next();
        bench.listen(50);
        bench.rename(8, "");
        checks.same("27: to the place 0 of the ROW at the place 0", "aa", said(bench, goToCheck(bench)));
    }

    /** From bb to a CHECK at the place 0 of the last ROW and back to aa, by letters and UP. */
    private static int goToCheck(Bench bench) {
        bench.addAt(5, 0, CHECK, "x");
        bench.points("14");
        checks.same("27: another row and column, by a letter", "aa x check off", bench.listen(50));
        bench.command("1");
        bench.command("1");
        bench.listen(50);
        bench.up();
        bench.listen(50);
        return bench.up();
    }

    private static void headsThatAreLeftOut() {
        Bench bench = table();
        bench.addAt(3, 2, BUTTON, "go");
        goTo(bench, 6);
        bench.desk.hide(2, true);
        bench.desk.hide(8, true);
        checks.same("28: lost to the next ROW", 3, bench.desk.cursor());
        bench.in();
        checks.same("28: at bb", 9, bench.desk.cursor());
        bench.listen(50);
        checks.same("27: no head at this place", "go button", said(bench, bench.next()));
        checks.same("27: a hidden head", "ab bb", said(bench, bench.previous()));
        bench.desk.hide(8, false);
        bench.desk.setRule(8, BrailleDesk.LESS);
        checks.same("27: by LESS no head", "ba", said(bench, bench.previous()));
        bench.desk.setRule(9, BrailleDesk.MORE);
        checks.same("27: by MORE", "ab bb 2 of 3", said(bench, bench.next()));
        checks.same("27: the head of the ROW alone", "da db", said(bench, bench.down()));
        bench.desk.rename(11);
        bench.desk.rename(7);
        bench.up();
        bench.listen(50);
        checks.same("27: heads without names", "db", said(bench, bench.down()));
        bench.up();
        bench.desk.rename(8);
        bench.listen(50);
        bench.down();
        checks.same("27: the level is that of the child", "db", bench.listen(50));
        bothHeads();
        otherTables();
    }

    private static void bothHeads() {
        Bench bench = table();
        bench.add(2, TEXT, "ac");
        bench.add(3, BUTTON, "go");
        goTo(bench, 6);
        checks.same("27: both heads", "ba ac go button", said(bench, bench.points("12")));
        goTo(bench, 6);
        bench.desk.setRule(14, BrailleDesk.LESS);
        checks.same("27: by LESS none of both", "go", said(bench, bench.points("12")));
        goTo(bench, 6);
        bench.desk.setRule(14, BrailleDesk.NONE);
        bench.desk.hide(13, true);
        bench.desk.hide(8, true);
        checks.same("27: both heads, though hidden", "ba ac go button", said(bench, bench.tab()));
        checks.same("27: TAB to where it is, without heads", "go button", said(bench, bench.tab()));
        bench.rename(8, "r");
        bench.rename(13, "c");
        goTo(bench, 6);
        checks.same("27: short heads", "r c go button", said(bench, bench.tab()));
    }

    private static void otherTables() {
        Bench bench = new Bench();
        bench.add(0, TABLE, "t");
        bench.add(1, ROW, "");
        bench.add(2, TEXT, "a");
        bench.add(2, BUTTON, "b");
        bench.add(0, TABLE, "u");
        bench.add(5, ROW, "");
        bench.add(6, TEXT, "c");
        bench.add(6, BUTTON, "d");
        goTo(bench, 3);
        checks.same("27: TAB in the table has no head that is itself", "b button", said(bench, bench.tab()));
        checks.same("27: another table has no heads", "d button", said(bench, bench.tab()));
        goTo(bench, 7);
        checks.same("27: from another place", "d button", said(bench, bench.points("12")));
        bench.addAt(5, 0, ROW, "");
        bench.add(9, TEXT, "h1");
        bench.add(9, TEXT, "h2");
        goTo(bench, 7);
        checks.same("27: a head by a letter", "h2 d button", said(bench, bench.points("12")));
        checks.same("27: PREVIOUS", "h1 c", said(bench, bench.previous()));
        checks.same("27: TAB with a head", "h2 d button", said(bench, bench.tab()));
        bench.desk.remove(4);
        checks.same("27: TAB to where it is", "d button", said(bench, bench.tab()));
    }

    private static void goTo(Bench bench, int element) {
        for (int i = 0; i < 40 && bench.desk.cursor() != 0; i++) {
            bench.out();
        }
        for (int i = 0; i < 40 && bench.desk.cursor() != element; i++) {
            bench.next();
        }
        checks.same("28: gone to", element, bench.desk.cursor());
        bench.hush();
    }

    /** What is heard by a command, which stands as an argument so that it comes first. */
    private static String said(Bench bench, int cursor) {
        return bench.listen(50);
    }

    private static void tab() {
        Bench bench = new Bench();
        checks.same("27: TAB without any", 0, bench.tab());
        checks.same("27: its answer", "none", bench.listen(9));
        checks.same("29: no focus", -1, bench.desk.focus());
        bench.add(0, TEXT, "t");
        bench.add(0, CHECK, "c");
        bench.add(0, GROUP, "g");
        bench.add(3, EDIT, "e");
        bench.add(0, BUTTON, "b");
        checks.same("27: TAB to a CHECK", 2, bench.tab());
        checks.same("27: its words", "c check off", bench.listen(50));
        checks.same("29: the focus, too", 2, bench.desk.focus());
        checks.same("27: TAB to an EDIT", 4, bench.tab());
        checks.same("30: without typing", false, bench.desk.isTyping());
        checks.same("27: TAB to a BUTTON", 5, bench.tab());
        checks.same("29: focus at the BUTTON", 5, bench.desk.focus());
        checks.same("27: TAB to the first one", 2, bench.tab());
        bench.previous();
        checks.same("29: the focus stays", 2, bench.desk.focus());
        checks.same("27: TAB from the cursor", 2, bench.tab());
        bench.next();
        checks.same("27: TAB from the cursor, not from the focus", 4, bench.tab());
        bench.desk.hide(5, true);
        bench.desk.hide(2, true);
        bench.listen(50);
        checks.same("27: TAB to where it is", 4, bench.tab());
        checks.same("27: words where it is", "e edit", bench.listen(50));
        bench.act();
        bench.tab();
        checks.same("30: TAB to where it is ends typing", false, bench.desk.isTyping());
        checks.same("29: with the focus", 4, bench.desk.focus());
    }

    private static void act() {
        Bench bench = new Bench();
        int[] kinds = {GROUP, TEXT, TABLE, LIVE, BUTTON, CHECK, EDIT};
        for (int kind : kinds) {
            bench.add(0, kind, "x");
        }
        bench.add(3, ROW, "r");
        bench.act();
        checks.same("27: ACT at the screen", "none", bench.listen(9));
        for (int i = 0; i < 5; i++) {
            bench.next();
            bench.act();
            boolean isButton = bench.desk.kind(bench.desk.cursor()) == BUTTON;
            checks.same("27: ACT at " + bench.desk.cursor(), isButton ? "pressed" : "none", bench.listen(9));
            checks.same("29: focus by it", isButton ? 5 : -1, bench.desk.focus());
            if (bench.desk.cursor() == 3) {
                bench.next();
                bench.act();
                checks.same("27: ACT at a ROW", "none", bench.listen(9));
            }
        }
        bench.act();
        checks.same("20: pressed twice", 2, bench.desk.presses(5));
        bench.next();
        bench.act();
        checks.same("27: ACT at a CHECK", "on", bench.listen(9));
        checks.same("19: on by ACT", true, bench.desk.isOn(6));
        checks.same("29: focus at the CHECK", 6, bench.desk.focus());
        bench.act();
        checks.same("27: ACT again", "off", bench.listen(9));
        checks.same("19: off by ACT", false, bench.desk.isOn(6));
        bench.next();
        bench.act();
        checks.same("27: ACT at an EDIT", "type", bench.listen(9));
        checks.same("30: typing", true, bench.desk.isTyping());
        checks.same("29: focus at the EDIT", 7, bench.desk.focus());
        checks.same("20: an EDIT is not pressed", 0, bench.desk.presses(7));
    }

    private static void letters() {
        Bench bench = new Bench();
        int[] kinds = {GROUP, BUTTON, CHECK, EDIT, TABLE, LIVE};
        String[] points = {"1245", "12", "14", "15", "2345", "123"};
        for (int kind : kinds) {
            bench.add(0, kind, "n");
        }
        bench.add(5, ROW, "n");
        for (int i = 0; i < 6; i++) {
            checks.same("27: the letter of kind " + kinds[i], i + 1, bench.points(points[i]));
            bench.listen(50);
            checks.same("27: once more", i + 1, bench.points(points[i]));
            checks.same("27: its answer", "none", bench.listen(50));
        }
        goTo(bench, 5);
        checks.same("27: the letter of ROW", 7, bench.points("1235"));
        checks.same("27: words by a letter", "n row", bench.listen(50));
        goTo(bench, 1);
        checks.same("27: to a farther one", 6, bench.points("123"));
        goTo(bench, 1);
        bench.desk.hide(6, true);
        checks.same("27: not to what is hidden", 1, bench.points("123"));
        checks.same("27: nor back", 1, bench.points("1245"));
        checks.same("29: no focus by letters", -1, bench.desk.focus());
    }

    private static void otherChords() {
        String letters = ",1245,12,14,15,2345,1235,123,";
        String commands = ",1,4,3,6,2,5,2345,8,7,123,456,1235,";
        for (int keys = 1; keys < 256; keys++) {
            String points = "," + Bench.points(keys) + ",";
            if (!letters.contains(points)) {
                nothingIsDone("by " + points, keys);
            }
            if (!commands.contains(points)) {
                nothingIsDone("by the space and " + points, 256 | keys);
            }
        }
        nothingIsDone("by the space alone", 256);
    }

    private static void nothingIsDone(String what, int keys) {
        Bench bench = new Bench();
        bench.add(0, BUTTON, "abcdefghijkl");
        bench.add(0, EDIT, "e");
        bench.tab();
        String line = bench.pins();
        checks.same("27: the cursor " + what, 1, bench.desk.chord(keys));
        checks.same("33: the line " + what, line, bench.pins());
        checks.same("37: the words before " + what, "abcdefghijkl button", bench.listen(50));
        checks.same("44: dropped " + what, 0, bench.desk.dropped());
    }

    private static void lostCursor() {
        Bench bench = new Bench();
        for (String name : new String[] {"a", "b", "c", "d"}) {
            bench.add(0, BUTTON, name);
        }
        goTo(bench, 2);
        bench.desk.remove(2);
        checks.same("28: to the sibling behind", 3, bench.desk.cursor());
        checks.same("41: an ALERT", 1, bench.desk.waiting(2));
        checks.same("28: lost", "lost c button", bench.listen(50));
        bench.desk.hide(4, true);
        bench.desk.hide(3, true);
        checks.same("28: to the sibling ahead", 1, bench.desk.cursor());
        checks.same("28: lost to it", "lost a button", bench.listen(50));
        bench.desk.hide(1, true);
        checks.same("28: to the parent", 0, bench.desk.cursor());
        checks.same("28: lost to the parent", "lost group", bench.listen(50));
        bench.desk.hide(1, false);
        checks.same("28: it stays then", 0, bench.desk.cursor());
        bench.desk.hide(1, true);
        checks.same("41: no ALERT if it is not lost", 0, bench.desk.waiting(2));
        lostFromBelow();
    }

    private static void lostFromBelow() {
        Bench bench = new Bench();
        bench.add(0, TEXT, "");
        bench.add(0, GROUP, "g");
        bench.add(2, TEXT, "x");
        bench.add(2, TEXT, "y");
        goTo(bench, 3);
        bench.desk.hide(2, true);
        checks.same("28: to the sibling of what is hidden", 1, bench.desk.cursor());
        checks.same("28: lost to one without words", "lost", bench.listen(50));
        bench.desk.hide(2, false);
        bench.desk.setRule(0, BrailleDesk.MORE);
        goTo(bench, 4);
        bench.desk.remove(4);
        checks.same("28: to the sibling ahead of what is gone", 3, bench.desk.cursor());
        checks.same("28: its words behind the call", "lost x 1 of 1", bench.listen(50));
        bench.addAt(0, 0, TEXT, "first");
        bench.desk.remove(2);
        checks.same("28: the nearest one ahead", 1, bench.desk.cursor());
        checks.same("28: lost to the nearest one", "lost 2 of 2", bench.listen(50));
    }

    private static void lostFocus() {
        Bench bench = new Bench();
        bench.add(0, GROUP, "g");
        bench.add(1, BUTTON, "b");
        bench.add(0, EDIT, "e");
        bench.tab();
        bench.next();
        bench.desk.hide(1, true);
        checks.same("29: not shown any more", -1, bench.desk.focus());
        checks.same("28: the cursor is elsewhere", 3, bench.desk.cursor());
        bench.desk.hide(1, false);
        checks.same("29: it does not come back", -1, bench.desk.focus());
        bench.act();
        bench.desk.remove(2);
        checks.same("29: another one is gone", 3, bench.desk.focus());
        checks.same("30: another one is gone", true, bench.desk.isTyping());
        bench.desk.remove(3);
        checks.same("29: gone", -1, bench.desk.focus());
        checks.same("30: gone", false, bench.desk.isTyping());
    }
}
