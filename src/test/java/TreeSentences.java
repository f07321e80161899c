/** The sentences of "The tree". */
final class TreeSentences extends Constants {
    private static final String TITLE = "The tree";

    private TreeSentences() {
    }

    static void all(Sentences sentences) {
        numbers(sentences);
        places(sentences);
        kindsOfChildren(sentences);
        gone(sentences);
        characters(sentences);
        ofKinds(sentences);
        shown(sentences);
        order(sentences);
        levels(sentences);
    }

    private static void numbers(Sentences sentences) {
        sentences.term(TITLE, 3, "Elements are numbered from 0 as they are made, to 39 at the most.", checks -> {
            Bench bench = new Bench();
            checks.same("the first one behind the screen", 1, bench.add(0, TEXT, ""));
            checks.same("the next one, though it stands ahead of it", 2, bench.addAt(0, 0, TEXT, ""));
            bench.desk.remove(1);
            checks.same("the number of the one that is gone is not taken again", 3, bench.add(0, TEXT, ""));
            for (int i = 4; i < 39; i++) {
                bench.desk.remove(bench.add(0, TEXT, ""));
            }
            checks.index("39 ahead of the last one", () -> bench.desk.kind(39));
            checks.same("the last one", 39, bench.add(0, BUTTON, ""));
            checks.same("its kind", BUTTON, bench.desk.kind(39));
            checks.state("one too many", () -> bench.desk.add(0, 0, TEXT));
            checks.same("how many are there", 4, bench.desk.elements());
            bench.desk.remove(39);
            checks.state("one too many, though not so many are there", () -> bench.desk.add(0, 0, TEXT));
        });
        sentences.term(TITLE, 1, "The element 0 is the screen, a GROUP without a name, there from the beginning.", checks -> {
            BrailleDesk desk = new BrailleDesk();
            checks.same("kind", GROUP, desk.kind(0));
            checks.same("length of its name", 0, desk.nameLength(0));
            checks.index("its name", () -> desk.nameAt(0, 0));
            checks.same("parent", NONE, desk.parent(0));
            checks.same("elements", 1, desk.elements());
            checks.index("another element", () -> desk.kind(1));
            desk.draft('x');
            checks.state("the screen gets no name", () -> desk.rename(0));
        });
    }

    private static void places(Sentences sentences) {
        String words = "Each other one has a parent, and a place among its children, counted from 0 on;";
        sentences.term(TITLE, 14, words, checks -> {
            Bench bench = new Bench();
            int group = bench.add(0, GROUP, "g");
            int last = bench.add(group, TEXT, "t");
            int first = bench.addAt(group, 0, TEXT, "u");
            checks.same("parent", group, bench.desk.parent(last));
            checks.same("parent of that", 0, bench.desk.parent(group));
            checks.same("place 0", first, bench.desk.childAt(group, 0));
            checks.same("place 1", last, bench.desk.childAt(group, 1));
            checks.index("place -1", () -> bench.desk.childAt(group, -1));
            checks.index("place 2", () -> bench.desk.childAt(group, 2));
            checks.index("place 0 where no child is", () -> bench.desk.childAt(last, 0));
        });
        sentences.term(TITLE, 3, "an element has at most 10 children.", checks -> {
            mostChildren(checks, GROUP, TEXT);
            mostChildren(checks, LIVE, TEXT);
            mostChildren(checks, TABLE, ROW);
            Bench bench = new Bench();
            int row = bench.add(bench.add(0, TABLE, ""), ROW, "");
            mostChildrenOf(checks, bench, row, CHECK);
        });
        sentences.term(TITLE, 3, "an element has at most 10 children.", checks -> {
            Bench bench = new Bench();
            for (int i = 0; i < 10; i++) {
                bench.add(0, TEXT, "");
            }
            bench.desk.hide(5, true);
            checks.state("a hidden one counts", () -> bench.desk.add(0, 0, TEXT));
            bench.desk.remove(5);
            checks.same("one that is gone does not", 11, bench.desk.add(0, 9, TEXT));
            checks.same("then there are", 10, bench.desk.children(0));
            checks.state("and no more", () -> bench.desk.add(0, 0, TEXT));
        });
    }

    private static void mostChildren(Checks checks, int kind, int childKind) {
        Bench bench = new Bench();
        mostChildrenOf(checks, bench, bench.add(0, kind, ""), childKind);
    }

    private static void mostChildrenOf(Checks checks, Bench bench, int parent, int childKind) {
        String what = KIND_WORDS[bench.desk.kind(parent)];
        for (int i = 0; i < 9; i++) {
            bench.add(parent, childKind, "");
        }
        checks.same(what + ": the tenth child", parent + 10, Checks.answer(() -> bench.add(parent, childKind, "")));
        checks.same(what + ": its place", parent + 10, Checks.answer(() -> bench.desk.childAt(parent, 9)));
        checks.state(what + ": the eleventh child", () -> bench.desk.add(parent, 0, childKind));
        checks.same(what + ": children", 10, bench.desk.children(parent));
    }

    private static void kindsOfChildren(Sentences sentences) {
        String inGroups = "In a GROUP and in a LIVE there are elements of all kinds but ROW,";
        sentences.term(TITLE, 3, inGroups, checks -> {
            canHave(checks, GROUP, GROUP, TEXT, BUTTON, CHECK, EDIT, TABLE, LIVE);
            canHave(checks, LIVE, GROUP, TEXT, BUTTON, CHECK, EDIT, TABLE, LIVE);
            BrailleDesk desk = new BrailleDesk();
            checks.state("a ROW in the screen, a GROUP too", () -> desk.add(0, 0, ROW));
        });
        sentences.term(TITLE, 3, "in a TABLE there are ROWs alone,", checks -> canHave(checks, TABLE, ROW));
        sentences.term(TITLE, 3, "in a ROW there are TEXTs, BUTTONs, CHECKs and EDITs,", checks ->
                canHave(checks, ROW, TEXT, BUTTON, CHECK, EDIT));
        sentences.term(TITLE, 3, "and these four have no children.", checks -> {
            canHave(checks, TEXT);
            canHave(checks, BUTTON);
            canHave(checks, CHECK);
            canHave(checks, EDIT);
        });
    }

    private static void canHave(Checks checks, int kind, int... childKinds) {
        for (int childKind = GROUP; childKind <= LIVE; childKind++) {
            Bench bench = new Bench();
            int above = kind == ROW ? bench.add(0, TABLE, "") : 0;
            int parent = bench.add(above, kind, "");
            boolean can = false;
            for (int one : childKinds) {
                can |= one == childKind;
            }
            int asked = childKind;
            Object due = can ? parent + 1 : "throws.IllegalStateException";
            checks.same("kind " + childKind + " in kind " + kind, due,
                    Checks.answer(() -> bench.desk.add(parent, 0, asked)));
            checks.same("children of kind " + kind, can ? 1 : 0, bench.desk.children(parent));
        }
    }

    private static void gone(Sentences sentences) {
        sentences.term(TITLE, 4, "What is removed is gone for good, with all that is below it.", checks -> {
            Bench bench = new Bench();
            int ahead = bench.add(0, GROUP, "a");
            int table = bench.add(0, TABLE, "t");
            int row = bench.add(table, ROW, "r");
            int cell = bench.add(row, CHECK, "c");
            int behind = bench.add(0, GROUP, "b");
            int there = bench.desk.elements();
            checks.same("how many are gone", 3, bench.desk.remove(table));
            checks.same("how many are there", there - 3, bench.desk.elements());
            for (int one : new int[] {table, row, cell}) {
                checks.index("kind of " + one, () -> bench.desk.kind(one));
                checks.index("remove " + one, () -> bench.desk.remove(one));
                checks.index("add below " + one, () -> bench.desk.add(one, 0, ROW));
                checks.index("words of " + one, () -> bench.desk.wordsLength(one));
            }
            checks.same("children", ahead + " " + behind, bench.children(0));
            checks.same("order", "0 " + ahead + " " + behind, bench.order());
            checks.same("the next one has a number of its own", behind + 1, bench.add(0, TEXT, ""));
            checks.index("and the one that is gone stays so", () -> bench.desk.kind(table));
        });
    }

    private static void characters(Sentences sentences) {
        String words = "A character is a code from 32 to 126, or from 119040 to 119295.";
        sentences.term(TITLE, 2, words, checks -> {
            for (int good : new int[] {32, 33, 125, 126, 119040, 119041, 119294, 119295}) {
                Bench bench = new Bench();
                checks.same("code " + good, 1, Checks.answer(() -> bench.desk.draft(good)));
                bench.desk.add(0, 0, TEXT);
                checks.same("code " + good + " in a name", good, Checks.answer(() -> bench.desk.nameAt(1, 0)));
            }
            int[] wrong = {31, 127, 119039, 119296, 0, -1, 10, -32, 255, 65536, Integer.MIN_VALUE, Integer.MAX_VALUE};
            for (int bad : wrong) {
                BrailleDesk desk = new BrailleDesk();
                checks.argument("code " + bad, () -> desk.draft(bad));
                checks.same("the draft then", 1, desk.draft('a'));
            }
        });
        sentences.term(TITLE, 6, "An element has a name of 0 to 12 characters.", checks -> {
            Bench bench = new Bench();
            checks.same("none", 0, bench.desk.nameLength(bench.add(0, TEXT, "")));
            checks.same("one", 1, bench.desk.nameLength(bench.add(0, TEXT, "a")));
            checks.same("twelve", 12, bench.desk.nameLength(bench.add(0, TEXT, "abcdefghijkl")));
            checks.same("all of them", "abcdefghijkl", bench.name(3));
            checks.same("twelve by rename", 12, bench.rename(1, "lkjihgfedcba"));
            checks.same("all of these", "lkjihgfedcba", bench.name(1));
            checks.same("none by rename", 0, bench.rename(3, ""));
            checks.same("none then", "", bench.name(3));
            bench.draft("abcdefghijkl");
            checks.state("a thirteenth", () -> bench.desk.draft('m'));
            checks.same("still twelve", 12, bench.desk.rename(2));
        });
    }

    private static void ofKinds(Sentences sentences) {
        sentences.term(TITLE, 19, "A CHECK is on or off, off at first.", checks -> {
            Bench bench = new Bench();
            int check = bench.add(0, CHECK, "c");
            checks.same("at first", false, bench.desk.isOn(check));
            checks.same("off ahead of set", false, bench.desk.set(check, true));
            checks.same("on", true, bench.desk.isOn(check));
            checks.same("on ahead of set", true, bench.desk.set(check, false));
            checks.same("off", false, bench.desk.isOn(check));
        });
        sentences.term(TITLE, 17, "An EDIT has a content of 0 to 12 characters, none at first.", checks -> {
            Bench bench = new Bench();
            int edit = bench.add(0, EDIT, "e");
            checks.same("at first", 0, bench.desk.contentLength(edit));
            checks.index("its content at first", () -> bench.desk.contentAt(edit, 0));
            bench.tab();
            bench.act();
            for (int i = 1; i <= 12; i++) {
                bench.points("1");
                checks.same("after " + i, i, bench.desk.contentLength(edit));
            }
            checks.same("the twelfth", (int) 'a', bench.desk.contentAt(edit, 11));
            bench.points("12");
            checks.same("one too many", 12, bench.desk.contentLength(edit));
            checks.same("all as before", "aaaaaaaaaaaa", bench.content(edit));
            for (int i = 11; i >= 0; i--) {
                bench.points("7");
                checks.same("taken away to " + i, i, bench.desk.contentLength(edit));
            }
            bench.points("7");
            checks.same("nothing to take away", 0, bench.desk.contentLength(edit));
        });
        sentences.term(TITLE, 20, "A BUTTON counts how often it was pressed.", checks -> {
            Bench bench = new Bench();
            int first = bench.add(0, BUTTON, "b");
            int other = bench.add(0, BUTTON, "c");
            bench.next();
            for (int i = 0; i < 3; i++) {
                checks.same("presses", i, bench.desk.presses(first));
                bench.act();
            }
            checks.same("presses", 3, bench.desk.presses(first));
            checks.same("presses of the other one", 0, bench.desk.presses(other));
        });
    }

    private static void shown(Sentences sentences) {
        String words = "An element is shown if neither it nor any above it is hidden; none is at first.";
        sentences.term(TITLE, 21, words, checks -> {
            Bench bench = new Bench();
            int group = bench.add(0, GROUP, "");
            int inner = bench.add(group, LIVE, "");
            int text = bench.add(inner, TEXT, "");
            int other = bench.add(0, TEXT, "");
            for (int element = 0; element <= other; element++) {
                checks.same("at first", true, bench.desk.isShown(element));
            }
            bench.desk.hide(text, true);
            checks.same("itself hidden", false, bench.desk.isShown(text));
            checks.same("its parent", true, bench.desk.isShown(inner));
            bench.desk.hide(group, true);
            checks.same("the one above hidden", false, bench.desk.isShown(inner));
            bench.desk.hide(text, false);
            checks.same("not hidden itself, but one above", false, bench.desk.isShown(text));
            checks.same("beside it", true, bench.desk.isShown(other));
            bench.desk.hide(group, false);
            checks.same("none hidden", true, bench.desk.isShown(text));
            checks.same("none hidden", true, bench.desk.isShown(inner));
        });
        sentences.term(TITLE, 21, words, checks -> {
            Bench bench = new Bench();
            int group = bench.add(0, GROUP, "");
            int text = bench.add(group, TEXT, "");
            bench.desk.hide(group, true);
            int late = bench.add(group, TEXT, "");
            checks.same("added below a hidden one", false, bench.desk.isShown(late));
            bench.desk.hide(text, true);
            bench.desk.hide(group, false);
            checks.same("hidden itself while one above was", false, bench.desk.isShown(text));
            checks.same("added while one above was", true, bench.desk.isShown(late));
        });
    }

    private static void order(Sentences sentences) {
        sentences.term(TITLE, 24, "The reading order goes through all elements that are shown,", checks -> {
            Bench bench = new Bench();
            checks.same("the screen alone", "0", bench.order());
            bench.add(0, GROUP, "");
            bench.add(1, TEXT, "");
            bench.add(0, TEXT, "");
            checks.same("all", "0 1 2 3", bench.order());
            bench.desk.hide(2, true);
            checks.same("without the hidden one", "0 1 3", bench.order());
            bench.desk.hide(2, false);
            bench.desk.hide(1, true);
            checks.same("without all below it", "0 3", bench.order());
            bench.desk.hide(3, true);
            checks.same("all others hidden", "0", bench.order());
            bench.desk.hide(1, false);
            checks.same("come back", "0 1 2", bench.order());
            bench.desk.remove(1);
            checks.same("gone", "0", bench.order());
        });
        sentences.term(TITLE, 24, "each ahead of its children, these by rising places.", checks -> {
            Bench bench = new Bench();
            bench.add(0, GROUP, "");
            bench.add(1, GROUP, "");
            bench.add(2, TEXT, "");
            bench.add(1, TEXT, "");
            bench.addAt(1, 0, TEXT, "");
            bench.addAt(0, 0, TEXT, "");
            bench.addAt(2, 0, TEXT, "");
            checks.same("by places, not by numbers", "0 6 1 5 2 7 3 4", bench.order());
        });
        sentences.term(TITLE, 24, "each ahead of its children, these by rising places.", checks -> {
            Bench bench = new Bench();
            StringBuilder due = new StringBuilder("0");
            for (int i = 1; i < 40; i++) {
                bench.add(i - 1, i % 2 == 0 ? GROUP : LIVE, "");
                due.append(" ").append(i);
            }
            checks.same("forty, each in the one before", due.toString(), bench.order());
            checks.same("the deepest one", true, bench.desk.isShown(39));
            bench.desk.setRule(0, MORE);
            checks.same("its level", MORE, bench.desk.level(39));
        });
    }

    private static void levels(Sentences sentences) {
        sentences.term(TITLE, 22, "The level of an element is LESS, PLAIN or MORE: its own rule, if it has one,", checks -> {
            Bench bench = new Bench();
            int group = bench.add(0, GROUP, "");
            int text = bench.add(group, TEXT, "");
            for (int above = LESS; above <= MORE; above++) {
                for (int own = LESS; own <= MORE; own++) {
                    bench.desk.setRule(group, above);
                    bench.desk.setRule(text, own);
                    checks.same("own rule " + own + " below " + above, own, bench.desk.level(text));
                    checks.same("the parent's own", above, bench.desk.level(group));
                }
            }
        });
        sentences.term(TITLE, 22, "otherwise the level of its parent;", checks -> {
            Bench bench = new Bench();
            int group = bench.add(0, GROUP, "");
            int inner = bench.add(group, GROUP, "");
            int text = bench.add(inner, TEXT, "");
            bench.desk.setRule(group, MORE);
            checks.same("of its parent's parent", MORE, bench.desk.level(text));
            bench.desk.setRule(inner, LESS);
            checks.same("of its parent", LESS, bench.desk.level(text));
            checks.same("not of its child", MORE, bench.desk.level(group));
            bench.desk.setRule(text, PLAIN);
            bench.desk.setRule(text, NONE);
            checks.same("without its own again", LESS, bench.desk.level(text));
            bench.desk.setRule(inner, NONE);
            bench.desk.setRule(group, NONE);
            bench.desk.setRule(0, LESS);
            checks.same("of the screen", LESS, bench.desk.level(text));
        });
        sentences.term(TITLE, 22, "that of the screen without a rule is PLAIN.", checks -> {
            Bench bench = new Bench();
            int text = bench.add(0, TEXT, "");
            checks.same("at first", PLAIN, bench.desk.level(0));
            checks.same("below it", PLAIN, bench.desk.level(text));
            bench.desk.setRule(0, MORE);
            checks.same("with a rule", MORE, bench.desk.level(0));
            bench.desk.setRule(0, NONE);
            checks.same("without it again", PLAIN, bench.desk.level(0));
            checks.same("below it again", PLAIN, bench.desk.level(text));
        });
    }
}
