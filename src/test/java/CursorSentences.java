import java.util.function.BiConsumer;

/** The sentences of "Cursor and focus". */
final class CursorSentences extends Constants {
    private static final String TITLE = "Cursor and focus";

    private CursorSentences() {
    }

    static void all(Sentences sentences) {
        where(sentences);
        focus(sentences);
        behind(sentences);
        ahead(sentences);
        parent(sentences);
        alert(sentences);
        focusIsLost(sentences);
    }

    private interface Change {
        void on(Bench bench, int element);
    }

    /** The two calls by which an element is not shown any more. */
    private static void twice(BiConsumer<String, Change> test) {
        test.accept("removed: ", (bench, element) -> bench.desk.remove(element));
        test.accept("hidden: ", (bench, element) -> bench.desk.hide(element, true));
    }

    /** A group 1 with five TEXTs, 2 to 6, named by letters; the cursor is at one of them. */
    private static Bench five(int cursor) {
        Bench bench = new Bench();
        bench.add(0, GROUP, "g");
        for (char name = 'a'; name <= 'e'; name++) {
            bench.add(1, TEXT, "" + name);
        }
        for (int i = 0; i < cursor; i++) {
            bench.next();
        }
        return bench;
    }

    private static void where(Sentences sentences) {
        sentences.term(TITLE, 28, "The cursor is at an element that is shown, at first at the screen.", checks -> {
            Bench bench = new Bench();
            checks.same("at first", 0, bench.desk.cursor());
            bench.add(0, TEXT, "a");
            bench.add(0, TEXT, "b");
            checks.same("others are added", 0, bench.desk.cursor());
            bench.desk.hide(1, true);
            bench.next();
            checks.same("past a hidden one", 2, bench.desk.cursor());
            bench.desk.hide(2, true);
            checks.same("when all others are hidden", 0, bench.desk.cursor());
            bench.next();
            checks.same("it can't leave the screen", 0, bench.desk.cursor());
        });
    }

    private static void focus(Sentences sentences) {
        String words = "The focus is at a BUTTON, CHECK or EDIT that is shown, or nowhere, as at first.";
        sentences.term(TITLE, 29, words, checks -> {
            checks.same("at first", NONE, new BrailleDesk().focus());
            for (int kind : new int[] {GROUP, TEXT, BUTTON, CHECK, EDIT, TABLE, LIVE}) {
                Bench bench = new Bench();
                bench.add(0, kind, "x");
                bench.next();
                checks.same("the cursor alone at kind " + kind, NONE, bench.desk.focus());
                bench.act();
                boolean can = kind == BUTTON || kind == CHECK || kind == EDIT;
                checks.same("ACT at kind " + kind, can ? 1 : NONE, bench.desk.focus());
            }
        });
        sentences.term(TITLE, 29, words, checks -> {
            Bench bench = new Bench();
            bench.add(0, BUTTON, "a");
            bench.add(0, CHECK, "b");
            bench.desk.hide(1, true);
            bench.tab();
            checks.same("past a hidden one", 2, bench.desk.focus());
            bench.tab();
            checks.same("no other that is shown", 2, bench.desk.focus());
            bench.desk.hide(2, true);
            bench.tab();
            checks.same("none that is shown", NONE, bench.desk.focus());
        });
    }

    private static void behind(Sentences sentences) {
        String words = "If a call removes or hides an element x, and the element at the cursor is not shown any more by "
                + "that, the cursor comes to the nearest sibling of x behind it that is shown,";
        sentences.term(TITLE, 28, words, checks -> twice((what, lose) -> {
            Bench bench = five(3);
            checks.same(what + "ahead of it", 3, bench.desk.cursor());
            lose.on(bench, 3);
            checks.same(what + "the one right behind it", 4, bench.desk.cursor());
            Bench hidden = five(3);
            hidden.desk.hide(4, true);
            lose.on(hidden, 3);
            checks.same(what + "past a hidden one", 5, hidden.desk.cursor());
            Bench first = five(2);
            lose.on(first, 2);
            checks.same(what + "from the first place", 3, first.desk.cursor());
            Bench last = five(5);
            lose.on(last, 5);
            checks.same(what + "to the last place", 6, last.desk.cursor());
        }));
        sentences.term(TITLE, 28, words, checks -> twice((what, lose) -> {
            Bench below = five(3);
            below.add(0, TEXT, "z");
            lose.on(below, 1);
            checks.same(what + "with one above it: the sibling of that one", 7, below.desk.cursor());
            Bench deep = five(2);
            deep.add(0, GROUP, "h");
            deep.add(7, TEXT, "i");
            lose.on(deep, 1);
            checks.same(what + "to the sibling, not below it", 7, deep.desk.cursor());
        }));
        sentences.term(TITLE, 28, "and the element at the cursor is not shown any more by that,", checks ->
                twice((what, lose) -> {
                    Bench bench = five(3);
                    lose.on(bench, 2);
                    checks.same(what + "the one ahead of it", 3, bench.desk.cursor());
                    lose.on(bench, 4);
                    checks.same(what + "the one behind it", 3, bench.desk.cursor());
                    Bench group = five(1);
                    lose.on(group, 2);
                    checks.same(what + "a child of it", 1, group.desk.cursor());
                    checks.same(what + "no ALERT comes", 0, group.desk.waiting(ALERT));
                    Bench screen = five(0);
                    lose.on(screen, 1);
                    checks.same(what + "the cursor at the screen", 0, screen.desk.cursor());
                }));
        sentences.term(TITLE, 28, "and the element at the cursor is not shown any more by that,", checks -> {
            Bench bench = five(3);
            bench.desk.hide(3, false);
            checks.same("not hidden, as before", 3, bench.desk.cursor());
            bench.desk.hide(3, true);
            bench.desk.hide(3, false);
            checks.same("it does not come back", 4, bench.desk.cursor());
            checks.same("nor is it told again", 1, bench.desk.waiting(ALERT));
            bench.desk.hide(3, true);
            bench.desk.remove(3);
            checks.same("what was hidden is removed", 4, bench.desk.cursor());
            checks.same("nothing is lost by that", 1, bench.desk.waiting(ALERT));
        });
    }

    private static void ahead(Sentences sentences) {
        String words = "otherwise to the nearest one ahead of it that is shown,";
        sentences.term(TITLE, 28, words, checks -> twice((what, lose) -> {
            Bench last = five(6);
            lose.on(last, 6);
            checks.same(what + "the one right ahead of it", 5, last.desk.cursor());
            Bench hidden = five(6);
            hidden.desk.hide(5, true);
            hidden.desk.hide(4, true);
            lose.on(hidden, 6);
            checks.same(what + "past hidden ones", 3, hidden.desk.cursor());
            Bench behind = five(3);
            behind.desk.hide(4, true);
            behind.desk.hide(5, true);
            behind.desk.hide(6, true);
            lose.on(behind, 3);
            checks.same(what + "those behind it are hidden", 2, behind.desk.cursor());
        }));
    }

    private static void parent(Sentences sentences) {
        sentences.term(TITLE, 28, "otherwise to the parent of x,", checks -> twice((what, lose) -> {
            Bench bench = new Bench();
            bench.add(0, GROUP, "g");
            bench.add(1, GROUP, "h");
            bench.add(2, TEXT, "t");
            bench.next();
            bench.next();
            bench.next();
            lose.on(bench, 3);
            checks.same(what + "no sibling", 2, bench.desk.cursor());
            lose.on(bench, 2);
            checks.same(what + "no sibling again", 1, bench.desk.cursor());
            lose.on(bench, 1);
            checks.same(what + "to the screen", 0, bench.desk.cursor());
            Bench hidden = five(3);
            for (int sibling : new int[] {2, 4, 5, 6}) {
                hidden.desk.hide(sibling, true);
            }
            lose.on(hidden, 3);
            checks.same(what + "all siblings hidden", 1, hidden.desk.cursor());
            Bench above = five(3);
            lose.on(above, 1);
            checks.same(what + "the parent of the one that it was below", 0, above.desk.cursor());
        }));
    }

    private static void alert(Sentences sentences) {
        String words = "and an ALERT comes: \"lost\" and the words of the element to which it came, as parts.";
        sentences.term(TITLE, 4, words, checks -> twice((what, lose) -> {
            Bench bench = five(3);
            checks.same(what + "the words of the next one", "lost c", bench.told(() -> lose.on(bench, 3)));
            Bench one = five(3);
            lose.on(one, 3);
            checks.same(what + "one ALERT", "0 1 1", one.waiting());
            Bench parent = five(3);
            parent.desk.setRule(0, MORE);
            checks.same(what + "the words of the screen", "lost group", parent.told(() -> lose.on(parent, 1)));
            Bench empty = five(2);
            empty.rename(3, "");
            checks.same(what + "empty words are left out", "lost", empty.told(() -> lose.on(empty, 2)));
        }));
        sentences.term(TITLE, 4, words, checks -> twice((what, lose) -> {
            Bench bench = five(3);
            bench.desk.setRule(1, MORE);
            checks.same(what + "the words as they are then", "lost c 2 of 4", bench.told(() -> lose.on(bench, 3)));
        }));
    }

    private static void focusIsLost(Sentences sentences) {
        String words = "If the element with the focus is not shown any more, the focus is nowhere, and typing ends.";
        sentences.term(TITLE, 29, words, checks -> twice((what, lose) -> {
            Bench bench = new Bench();
            bench.add(0, GROUP, "g");
            bench.add(1, EDIT, "e");
            bench.add(0, EDIT, "f");
            bench.tab();
            bench.act();
            checks.same(what + "focus ahead of it", 2, bench.desk.focus());
            lose.on(bench, 3);
            checks.same(what + "another one: focus", 2, bench.desk.focus());
            checks.same(what + "another one: typing", true, bench.desk.isTyping());
            lose.on(bench, 1);
            checks.same(what + "one above it: focus", NONE, bench.desk.focus());
            checks.same(what + "one above it: typing", false, bench.desk.isTyping());
        }));
        sentences.term(TITLE, 29, words, checks -> twice((what, lose) -> {
            Bench bench = new Bench();
            bench.add(0, BUTTON, "b");
            bench.add(0, EDIT, "e");
            bench.tab();
            bench.previous();
            checks.same(what + "the focus stays where it was", 1, bench.desk.focus());
            lose.on(bench, 1);
            checks.same(what + "the focus without the cursor", NONE, bench.desk.focus());
            checks.same(what + "the cursor stays", 0, bench.desk.cursor());
            bench.tab();
            bench.act();
            bench.points("1");
            lose.on(bench, 2);
            checks.same(what + "itself: focus", NONE, bench.desk.focus());
            checks.same(what + "itself: typing", false, bench.desk.isTyping());
            checks.same(what + "the line has no mark", 1, bench.desk.lineLength());
        }));
        sentences.term(TITLE, 29, words, checks -> {
            Bench bench = new Bench();
            bench.add(0, EDIT, "e");
            bench.tab();
            bench.act();
            bench.desk.hide(1, true);
            bench.desk.hide(1, false);
            checks.same("shown again: focus", NONE, bench.desk.focus());
            checks.same("shown again: typing", false, bench.desk.isTyping());
            bench.points("15");
            checks.same("a letter types nothing then", 0, bench.desk.contentLength(1));
        });
    }
}
