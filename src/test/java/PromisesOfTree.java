/** The sentences of the promises 1 to 24. */
final class PromisesOfTree extends Constants {
    private static final String ELEMENT = "- `element`: an element";
    private static final String NO_ELEMENT = "Throws `IndexOutOfBoundsException` if there is no such element";
    private static final String FULL = "abcdefghijkl";

    private PromisesOfTree() {
    }

    static void all(Sentences sentences) {
        newObject(sentences);
        draft(sentences);
        add(sentences);
        addIsRefused(sentences);
        remove(sentences);
        hide(sentences);
        rename(sentences);
        set(sentences);
        setRule(sentences);
        setManner(sentences);
        counts(sentences);
        kinships(sentences);
        texts(sentences);
        states(sentences);
        reading(sentences);
    }

    interface ElementCall {
        Object on(BrailleDesk desk, int element);
    }

    /** Elements 0 to 4, of which 3 is gone. */
    private static Bench four() {
        Bench bench = new Bench();
        bench.add(0, LIVE, "l");
        bench.add(1, CHECK, "c");
        bench.add(0, TEXT, "gone");
        bench.add(0, EDIT, "e");
        bench.desk.remove(3);
        return bench;
    }

    /** Forty were made, and all of them are there. */
    private static Bench forty() {
        Bench bench = new Bench();
        for (int group = 1; group <= 3; group++) {
            bench.add(0, GROUP, "");
        }
        for (int i = 0; i < 36; i++) {
            bench.add(i < 30 ? 1 + i / 10 : 0, CHECK, "");
        }
        return bench;
    }

    static void noElement(Checks checks, ElementCall call) {
        for (int element : new int[] {-1, 3, 5, 39, 40, Integer.MIN_VALUE, Integer.MAX_VALUE}) {
            checks.refused("element " + element, "IndexOutOfBoundsException", PromisesOfTree::four,
                    desk -> call.on(desk, element));
        }
        Bench fresh = new Bench();
        checks.index("behind the screen alone", () -> call.on(fresh.desk, 1));
        Bench forty = forty();
        checks.index("behind the last one that can be made", () -> call.on(forty.desk, 40));
    }

    private static void newObject(Sentences sentences) {
        String words = "The screen alone, an empty draft, silence; the time is 0.";
        sentences.promise(1, words, checks -> {
            BrailleDesk desk = new BrailleDesk();
            checks.same("elements", 1, desk.elements());
            checks.same("order", 1, desk.reading());
            checks.same("children", 0, desk.children(0));
            checks.index("another one", () -> desk.parent(1));
            checks.same("speaking", NONE, desk.speaking());
            checks.same("left", 0, desk.left());
            for (int priority = NEWS; priority <= ALERT; priority++) {
                checks.same("waiting " + priority, 0, desk.waiting(priority));
            }
            checks.same("heard", 0, desk.heard());
            checks.index("a character that was heard", () -> desk.heardAt(0));
            checks.same("dropped", 0, desk.dropped());
            checks.same("swallowed", 0, desk.swallowed());
            checks.same("time", 0, desk.time());
            checks.same("fifty ticks", 0, desk.tick(50));
        });
        sentences.promise(1, words, checks -> {
            BrailleDesk desk = new BrailleDesk();
            checks.same("the first character of the draft", 1, desk.draft('x'));
            BrailleDesk other = new BrailleDesk();
            other.add(0, 0, TEXT);
            checks.same("a name by the empty draft, another object's has nothing to do with it", 0, other.nameLength(1));
            checks.same("no key is pressed", 1, other.press(8));
        });
    }

    private static void draft(Sentences sentences) {
        sentences.promise(2, "Adds a character to the draft of a name.", checks -> {
            Bench bench = new Bench();
            bench.desk.draft('b');
            bench.desk.draft('a');
            bench.desk.add(0, 0, TEXT);
            checks.same("at its end", "ba", bench.name(1));
        });
        sentences.promise(2, "- `code`: its code", checks -> {
            Bench bench = new Bench();
            bench.desk.draft(119040);
            bench.desk.draft(32);
            bench.desk.add(0, 0, TEXT);
            checks.same("the first one", 119040, bench.desk.nameAt(1, 0));
            checks.same("the second one", 32, bench.desk.nameAt(1, 1));
        });
        sentences.promise(2, "Returns how many characters the draft has then.", checks -> {
            BrailleDesk desk = new BrailleDesk();
            for (int i = 1; i <= 12; i++) {
                checks.same("the character " + i, i, desk.draft('x'));
            }
            desk.add(0, 0, TEXT);
            checks.same("when it was empty again", 1, desk.draft('x'));
        });
        sentences.promise(2, "Throws `IllegalArgumentException` if code is that of no character", checks -> {
            for (int code : new int[] {31, 127, 119039, 119296, -1, 0, Integer.MAX_VALUE, Integer.MIN_VALUE}) {
                checks.refused("code " + code, "IllegalArgumentException", PromisesOfTree::four, desk -> desk.draft(code));
            }
            BrailleDesk desk = new BrailleDesk();
            int count = 0;
            for (int code : new int[] {32, 126, 119040, 119295}) {
                count++;
                checks.same("code " + code, count, desk.draft(code));
            }
        });
        sentences.promise(2, "Throws `IllegalStateException` if the draft has 12", checks -> {
            Bench eleven = four();
            eleven.draft(FULL.substring(1));
            checks.same("it has 11", 12, eleven.desk.draft('x'));
            checks.refused("it has 12", "IllegalStateException", PromisesOfTree::fullDraft, desk -> desk.draft('x'));
            checks.refused("it has 12, and no character", "IllegalArgumentException", PromisesOfTree::fullDraft,
                    desk -> desk.draft(31));
        });
    }

    private static Bench fullDraft() {
        Bench bench = four();
        bench.draft(FULL);
        return bench;
    }

    private static void add(Sentences sentences) {
        sentences.promise(3, "Adds an element; its name is the draft, which is empty then.", checks -> {
            Bench bench = new Bench();
            bench.draft(FULL);
            bench.desk.add(0, 0, BUTTON);
            checks.same("its name", FULL, bench.name(1));
            checks.same("elements", 2, bench.desk.elements());
            checks.same("kind", BUTTON, bench.desk.kind(1));
            bench.desk.add(0, 0, BUTTON);
            checks.same("the draft is empty then", "", bench.name(2));
            bench.desk.draft('y');
            checks.same("the name stays", FULL, bench.name(1));
        });
        sentences.promise(3, "- `parent`: an element", checks -> {
            Bench bench = new Bench();
            bench.add(0, GROUP, "");
            bench.add(1, GROUP, "");
            checks.same("the first one, the screen", 3, bench.desk.add(0, 0, TEXT));
            checks.same("the last one that can have children", 4, bench.desk.add(2, 0, TEXT));
            checks.same("its parent", 2, bench.desk.parent(4));
        });
        String place = "- `place`: 0 to the number of its children: those from this place on come one place behind";
        sentences.promise(3, place, checks -> {
            Bench bench = new Bench();
            checks.argument("place -1 of none", () -> bench.desk.add(0, -1, TEXT));
            checks.argument("place 1 of none", () -> bench.desk.add(0, 1, TEXT));
            checks.same("place 0 of none", 1, bench.desk.add(0, 0, TEXT));
            checks.same("behind the last one", 2, bench.desk.add(0, 1, TEXT));
            checks.argument("farther behind", () -> bench.desk.add(0, 3, TEXT));
            checks.same("order", "1 2", bench.children(0));
            bench.desk.add(0, 0, TEXT);
            checks.same("at the first place", "3 1 2", bench.children(0));
            bench.desk.add(0, 2, TEXT);
            checks.same("between", "3 1 4 2", bench.children(0));
            bench.desk.add(0, 4, TEXT);
            checks.same("at the end", "3 1 4 2 5", bench.children(0));
        });
        sentences.promise(3, "- `kind`: GROUP to LIVE", checks -> {
            Bench bench = new Bench();
            checks.argument("below GROUP", () -> bench.desk.add(0, 0, GROUP - 1));
            checks.argument("above LIVE", () -> bench.desk.add(0, 0, LIVE + 1));
            checks.same("GROUP", 1, bench.desk.add(0, 0, GROUP));
            checks.same("LIVE", 2, bench.desk.add(0, 0, LIVE));
            checks.same("its kind", LIVE, bench.desk.kind(2));
        });
        sentences.promise(3, "Returns its number.", checks -> {
            Bench bench = new Bench();
            for (int number = 1; number <= 10; number++) {
                checks.same("the next number", number, bench.desk.add(0, 0, TEXT));
            }
            bench.desk.remove(10);
            checks.same("behind one that is gone", 11, bench.desk.add(0, 0, TEXT));
        });
    }

    private static Bench tenChildren() {
        Bench bench = new Bench();
        for (int i = 0; i < 10; i++) {
            bench.add(0, i == 9 ? GROUP : TEXT, "");
        }
        bench.draft("d");
        return bench;
    }

    /** So many were made; the last one is a GROUP, and the ones between are gone. */
    private static Bench made(int count) {
        Bench bench = new Bench();
        for (int number = 1; number < count; number++) {
            bench.add(0, GROUP, "");
            if (number > 1 && number < count - 1) {
                bench.desk.remove(number);
            }
        }
        bench.draft("d");
        return bench;
    }

    private static Bench made40() {
        return made(40);
    }

    private static void addIsRefused(Sentences sentences) {
        sentences.promise(3, "Throws `IndexOutOfBoundsException` if there is no such parent", checks -> {
            noElement(checks, (desk, element) -> desk.add(element, 0, TEXT));
            checks.refused("and place is out of range", "IndexOutOfBoundsException", PromisesOfTree::four,
                    desk -> desk.add(3, -1, TEXT));
            checks.refused("and kind is out of range", "IndexOutOfBoundsException", PromisesOfTree::four,
                    desk -> desk.add(5, 0, 8));
            checks.refused("and 40 were made", "IndexOutOfBoundsException", PromisesOfTree::made40,
                    desk -> desk.add(40, 0, TEXT));
            checks.refused("and 20 ALERTs wait", "IndexOutOfBoundsException", Bench::twentyAlerts,
                    desk -> desk.add(3, 0, TEXT));
        });
        sentences.promise(3, "Throws `IllegalArgumentException` if place or kind is out of range", checks -> {
            String due = "IllegalArgumentException";
            for (int place : new int[] {-1, 3, 10, Integer.MIN_VALUE, Integer.MAX_VALUE}) {
                checks.refused("place " + place, due, PromisesOfTree::four, desk -> desk.add(0, place, TEXT));
            }
            for (int kind : new int[] {-1, 8, Integer.MIN_VALUE, Integer.MAX_VALUE}) {
                checks.refused("kind " + kind, due, PromisesOfTree::four, desk -> desk.add(0, 0, kind));
            }
            checks.same("the last place", 5, four().desk.add(0, 2, TEXT));
            checks.refused("place, and the parent can have none", due, PromisesOfTree::four, desk -> desk.add(2, 1, TEXT));
            checks.refused("place, and none of the kind", due, PromisesOfTree::four, desk -> desk.add(0, 3, ROW));
            checks.refused("kind, and the parent can have none", due, PromisesOfTree::four, desk -> desk.add(2, 0, 8));
            checks.refused("place, and 10 children", due, PromisesOfTree::tenChildren, desk -> desk.add(0, 11, TEXT));
            checks.refused("kind, and 10 children", due, PromisesOfTree::tenChildren, desk -> desk.add(0, 0, -1));
            checks.refused("place, and 40 were made", due, PromisesOfTree::made40, desk -> desk.add(39, 1, TEXT));
            checks.refused("kind, and 40 were made", due, PromisesOfTree::made40, desk -> desk.add(0, 0, 8));
            checks.refused("place, and 20 ALERTs wait", due, Bench::twentyAlerts, desk -> desk.add(0, 2, TEXT));
            checks.refused("kind, and 20 ALERTs wait", due, Bench::twentyAlerts, desk -> desk.add(0, 0, 8));
        });
        sentences.promise(3, "Throws `IllegalStateException` if 40 were made, the screen included,", checks -> {
            checks.same("39 were made", 39, made(39).desk.add(0, 0, TEXT));
            checks.refused("40 were made", "IllegalStateException", PromisesOfTree::made40, desk -> desk.add(0, 0, TEXT));
            Bench forty = forty();
            checks.state("40 are there", () -> forty.desk.add(0, 0, TEXT));
        });
        sentences.promise(3, "the parent has 10 children or can have none of the kind,", checks -> {
            String due = "IllegalStateException";
            Bench nine = tenChildren();
            nine.desk.remove(1);
            checks.same("9 children", 11, nine.desk.add(0, 9, TEXT));
            checks.refused("10 children", due, PromisesOfTree::tenChildren, desk -> desk.add(0, 0, TEXT));
            checks.refused("10 children, at the end", due, PromisesOfTree::tenChildren, desk -> desk.add(0, 10, TEXT));
            checks.same("another parent", 11, tenChildren().desk.add(10, 0, TEXT));
            checks.refused("none of the kind", due, PromisesOfTree::four, desk -> desk.add(0, 0, ROW));
            checks.refused("none at all", due, PromisesOfTree::four, desk -> desk.add(2, 0, TEXT));
        });
        sentences.promise(3, "or 20 ALERTs wait", checks -> {
            Bench nineteen = Bench.alerts(19);
            checks.same("19", 3, nineteen.desk.add(0, 0, TEXT));
            checks.refused("20", "IllegalStateException", Bench::twentyAlerts, desk -> desk.add(0, 0, TEXT));
            checks.refused("21", "IllegalStateException", Bench::twentyOneAlerts, desk -> desk.add(0, 0, TEXT));
            Bench fewer = Bench.alerts(20);
            fewer.desk.tick(1);
            checks.same("one has begun", 3, fewer.desk.add(0, 0, TEXT));
        });
    }

    /** A call that is refused when the element is the screen, or 20 ALERTs wait; both sides of that. */
    private static void refusedByScreenOrAlerts(Sentences sentences, int promise, ElementCall call, Object due) {
        sentences.promise(promise, "Throws `IllegalStateException` if it is the screen,", checks -> {
            checks.refused("the screen", "IllegalStateException", PromisesOfTree::four, desk -> call.on(desk, 0));
            checks.same("the one behind it", due, Checks.answer(() -> call.on(Bench.alerts(0).desk, 1)));
            checks.state("the screen alone", () -> call.on(new BrailleDesk(), 0));
        });
        sentences.promise(promise, "or 20 ALERTs wait", checks -> twentyAlerts(checks, call, 1, due));
    }

    private static void twentyAlerts(Checks checks, ElementCall call, int element, Object due) {
        String state = "IllegalStateException";
        checks.same("19", due, Checks.answer(() -> call.on(Bench.alerts(19).desk, element)));
        checks.refused("20", state, Bench::twentyAlerts, desk -> call.on(desk, element));
        checks.refused("21", state, Bench::twentyOneAlerts, desk -> call.on(desk, element));
        Bench fewer = Bench.alerts(20);
        fewer.desk.tick(1);
        checks.same("one has begun", due, Checks.answer(() -> call.on(fewer.desk, element)));
        checks.refused("20, and no such element", "IndexOutOfBoundsException", Bench::twentyAlerts,
                desk -> call.on(desk, 3));
    }

    private static void remove(Sentences sentences) {
        sentences.promise(4, "Removes an element.", checks -> {
            Bench bench = four();
            bench.desk.remove(4);
            checks.index("it is gone", () -> bench.desk.kind(4));
            checks.same("children", "1", bench.children(0));
            checks.same("elements", 3, bench.desk.elements());
        });
        sentences.promise(4, ELEMENT, checks -> {
            Bench bench = forty();
            checks.same("the last one of all", 1, bench.desk.remove(39));
            checks.same("the first one behind the screen", 11, bench.desk.remove(1));
        });
        sentences.promise(4, "Returns how many elements are gone by that.", checks -> {
            Bench bench = four();
            checks.same("one without children", 1, bench.desk.remove(4));
            bench.desk.hide(2, true);
            checks.same("one with a hidden child", 2, bench.desk.remove(1));
            Bench deep = new Bench();
            for (int i = 0; i < 39; i++) {
                deep.add(i, GROUP, "");
            }
            checks.same("all but the screen", 39, deep.desk.remove(1));
            checks.same("the screen is left", 1, deep.desk.elements());
        });
        sentences.promise(4, NO_ELEMENT, checks -> noElement(checks, (desk, element) -> desk.remove(element)));
        refusedByScreenOrAlerts(sentences, 4, (desk, element) -> desk.remove(element), 2);
    }

    private static void hide(Sentences sentences) {
        sentences.promise(5, "Hides an element, or not any more.", checks -> {
            Bench bench = four();
            bench.desk.hide(1, true);
            checks.same("hidden", "0 4", bench.order());
            bench.desk.hide(1, false);
            checks.same("not any more", "0 1 2 4", bench.order());
        });
        sentences.promise(5, ELEMENT, checks -> {
            Bench bench = forty();
            bench.desk.hide(39, true);
            checks.same("the last one of all", false, bench.desk.isShown(39));
            checks.same("no other one", 39, bench.desk.reading());
        });
        sentences.promise(5, "- `isHidden`: whether it is hidden from now on", checks -> {
            Bench bench = four();
            bench.desk.hide(4, true);
            bench.desk.hide(4, true);
            checks.same("true twice", false, bench.desk.isShown(4));
            bench.desk.hide(4, false);
            checks.same("false once", true, bench.desk.isShown(4));
            bench.desk.hide(4, false);
            checks.same("false twice", true, bench.desk.isShown(4));
        });
        sentences.promise(5, "Returns whether it was.", checks -> {
            Bench bench = four();
            checks.same("at first", false, bench.desk.hide(1, false));
            checks.same("not hidden before", false, bench.desk.hide(1, true));
            checks.same("hidden before", true, bench.desk.hide(1, true));
            checks.same("one below it was not", false, bench.desk.hide(2, true));
            checks.same("hidden before", true, bench.desk.hide(1, false));
            checks.same("one below it still is", true, bench.desk.hide(2, false));
        });
        sentences.promise(5, NO_ELEMENT, checks -> {
            noElement(checks, (desk, element) -> desk.hide(element, true));
            noElement(checks, (desk, element) -> desk.hide(element, false));
        });
        refusedByScreenOrAlerts(sentences, 5, (desk, element) -> desk.hide(element, true), false);
        refusedByScreenOrAlerts(sentences, 5, (desk, element) -> desk.hide(element, false), false);
    }

    private static void rename(Sentences sentences) {
        sentences.promise(6, "Gives an element the draft as its name; the draft is empty then.", checks -> {
            Bench bench = four();
            bench.draft("xyz");
            bench.desk.rename(2);
            checks.same("its name", "xyz", bench.name(2));
            checks.same("no other one's", "l", bench.name(1));
            checks.same("the draft is empty then", 1, bench.desk.draft('w'));
            checks.same("the name stays", "xyz", bench.name(2));
            bench.desk.rename(2);
            bench.desk.rename(2);
            checks.same("by an empty draft", "", bench.name(2));
        });
        sentences.promise(6, ELEMENT, checks -> {
            Bench bench = forty();
            bench.draft("last");
            bench.desk.rename(39);
            checks.same("the last one of all", "last", bench.name(39));
        });
        sentences.promise(6, "Returns how many characters its name has then.", checks -> {
            Bench bench = four();
            checks.same("none", 0, bench.desk.rename(1));
            checks.same("one", 1, bench.rename(1, "x"));
            checks.same("twelve", 12, bench.rename(1, FULL));
            checks.same("twelve again, the same", 12, bench.rename(1, FULL));
        });
        sentences.promise(6, NO_ELEMENT, checks -> noElement(checks, (desk, element) -> desk.rename(element)));
        refusedByScreenOrAlerts(sentences, 6, (desk, element) -> desk.rename(element), 2);
    }

    private static void set(Sentences sentences) {
        sentences.promise(7, "Puts a CHECK on or off.", checks -> {
            Bench bench = four();
            bench.desk.set(2, true);
            checks.same("on", true, bench.desk.isOn(2));
            bench.desk.set(2, false);
            checks.same("off", false, bench.desk.isOn(2));
        });
        sentences.promise(7, "- `element`: a CHECK", checks -> {
            Bench bench = forty();
            bench.desk.set(39, true);
            checks.same("the last one of all", true, bench.desk.isOn(39));
            checks.same("the one ahead of it", false, bench.desk.isOn(38));
        });
        sentences.promise(7, "- `isOn`: whether it is on from now on", checks -> {
            Bench bench = four();
            bench.desk.set(2, true);
            bench.desk.set(2, true);
            checks.same("true twice", true, bench.desk.isOn(2));
            bench.desk.set(2, false);
            bench.desk.set(2, false);
            checks.same("false twice", false, bench.desk.isOn(2));
        });
        sentences.promise(7, "Returns whether it was.", checks -> {
            Bench bench = four();
            checks.same("at first", false, bench.desk.set(2, false));
            checks.same("off before", false, bench.desk.set(2, true));
            checks.same("on before", true, bench.desk.set(2, true));
            checks.same("on before", true, bench.desk.set(2, false));
            bench.tab();
            bench.act();
            checks.same("on before by ACT", true, bench.desk.set(2, false));
        });
        sentences.promise(7, NO_ELEMENT, checks -> {
            noElement(checks, (desk, element) -> desk.set(element, true));
            noElement(checks, (desk, element) -> desk.set(element, false));
        });
        sentences.promise(7, "Throws `IllegalStateException` if it is no CHECK,", checks -> {
            for (int kind : new int[] {GROUP, TEXT, BUTTON, EDIT, TABLE, LIVE}) {
                checks.refused("kind " + kind, "IllegalStateException", () -> one(kind), desk -> desk.set(1, true));
                checks.refused("kind " + kind, "IllegalStateException", () -> one(kind), desk -> desk.set(1, false));
            }
            checks.refused("the screen", "IllegalStateException", PromisesOfTree::four, desk -> desk.set(0, true));
            Bench bench = one(TABLE);
            bench.add(1, ROW, "");
            checks.state("kind " + ROW, () -> bench.desk.set(2, true));
            checks.same("a CHECK", false, one(CHECK).desk.set(1, true));
        });
        sentences.promise(7, "or 20 ALERTs wait", checks -> {
            twentyAlerts(checks, (desk, element) -> desk.set(element, true), 2, false);
            twentyAlerts(checks, (desk, element) -> desk.set(element, false), 2, false);
        });
    }

    private static Bench one(int kind) {
        Bench bench = new Bench();
        bench.add(0, kind, "x");
        return bench;
    }

    private static void setRule(Sentences sentences) {
        sentences.promise(8, "Sets the rule of an element.", checks -> {
            Bench bench = four();
            bench.desk.setRule(1, LESS);
            checks.same("its level", LESS, bench.desk.level(1));
            checks.same("below it", LESS, bench.desk.level(2));
            checks.same("beside it", PLAIN, bench.desk.level(4));
        });
        sentences.promise(8, ELEMENT, checks -> {
            Bench bench = forty();
            bench.desk.setRule(39, MORE);
            checks.same("the last one of all", MORE, bench.desk.level(39));
            bench.desk.setRule(0, LESS);
            checks.same("the screen", LESS, bench.desk.level(0));
        });
        sentences.promise(8, "- `level`: LESS to MORE, or NONE for no rule", checks -> {
            Bench bench = four();
            for (int level = LESS; level <= MORE; level++) {
                bench.desk.setRule(4, level);
                checks.same("level " + level, level, bench.desk.level(4));
            }
            bench.desk.setRule(0, LESS);
            bench.desk.setRule(4, NONE);
            checks.same("no rule", LESS, bench.desk.level(4));
        });
        sentences.promise(8, "Returns its rule before; NONE for none.", checks -> {
            Bench bench = four();
            checks.same("at first", NONE, bench.desk.setRule(1, LESS));
            checks.same("LESS", LESS, bench.desk.setRule(1, PLAIN));
            checks.same("PLAIN", PLAIN, bench.desk.setRule(1, MORE));
            checks.same("its own, not that of its parent", NONE, bench.desk.setRule(2, NONE));
            checks.same("MORE", MORE, bench.desk.setRule(1, NONE));
            checks.same("none again", NONE, bench.desk.setRule(1, NONE));
            checks.same("the screen", NONE, bench.desk.setRule(0, PLAIN));
        });
        sentences.promise(8, NO_ELEMENT, checks -> {
            noElement(checks, (desk, element) -> desk.setRule(element, LESS));
            checks.refused("and level is out of range", "IndexOutOfBoundsException", PromisesOfTree::four,
                    desk -> desk.setRule(3, 3));
        });
        sentences.promise(8, "Throws `IllegalArgumentException` if level is out of range", checks -> {
            for (int level : new int[] {-2, 3, Integer.MIN_VALUE, Integer.MAX_VALUE}) {
                checks.refused("level " + level, "IllegalArgumentException", PromisesOfTree::four,
                        desk -> desk.setRule(1, level));
            }
            checks.same("NONE", NONE, four().desk.setRule(1, -1));
            checks.same("LESS", NONE, four().desk.setRule(1, 0));
            checks.same("MORE", NONE, four().desk.setRule(1, 2));
            Bench twenty = Bench.twentyAlerts();
            checks.same("when 20 ALERTs wait", NONE, Checks.answer(() -> twenty.desk.setRule(0, LESS)));
        });
    }

    private static void setManner(Sentences sentences) {
        sentences.promise(9, "Sets the manner of a region.", checks -> {
            Bench bench = four();
            bench.desk.tick(50);
            bench.desk.setManner(1, LOUD);
            bench.desk.set(2, true);
            checks.same("LOUD", "0 0 1", bench.waiting());
            bench.desk.setManner(1, QUIET);
            bench.desk.set(2, false);
            checks.same("QUIET", "0 0 1", bench.waiting());
            bench.desk.setManner(1, POLITE);
            bench.desk.set(2, true);
            checks.same("POLITE", "1 0 1", bench.waiting());
        });
        sentences.promise(9, "- `element`: a LIVE", checks -> {
            Bench bench = made(39);
            bench.add(0, LIVE, "");
            checks.same("the last one of all", POLITE, bench.desk.setManner(39, LOUD));
            checks.same("its manner", LOUD, bench.desk.setManner(39, LOUD));
        });
        sentences.promise(9, "- `manner`: QUIET to LOUD", checks -> {
            Bench bench = four();
            for (int manner = QUIET; manner <= LOUD; manner++) {
                bench.desk.setManner(1, manner);
                checks.same("manner " + manner, manner, bench.desk.setManner(1, manner));
            }
        });
        sentences.promise(9, "Returns its manner before.", checks -> {
            Bench bench = four();
            checks.same("at first", POLITE, bench.desk.setManner(1, LOUD));
            checks.same("LOUD", LOUD, bench.desk.setManner(1, QUIET));
            checks.same("QUIET", QUIET, bench.desk.setManner(1, POLITE));
        });
        sentences.promise(9, NO_ELEMENT, checks -> {
            noElement(checks, (desk, element) -> desk.setManner(element, LOUD));
            checks.refused("and manner is out of range", "IndexOutOfBoundsException", PromisesOfTree::four,
                    desk -> desk.setManner(3, 3));
        });
        sentences.promise(9, "Throws `IllegalArgumentException` if manner is out of range", checks -> {
            for (int manner : new int[] {-1, 3, Integer.MIN_VALUE, Integer.MAX_VALUE}) {
                checks.refused("manner " + manner, "IllegalArgumentException", PromisesOfTree::four,
                        desk -> desk.setManner(1, manner));
                checks.refused("and no LIVE, manner " + manner, "IllegalArgumentException", PromisesOfTree::four,
                        desk -> desk.setManner(2, manner));
            }
            Bench keeps = four();
            keeps.rename(2, "d");
            checks.argument("while it keeps something", () -> keeps.desk.setManner(1, 3));
            checks.same("which is not swallowed by that", 0, keeps.desk.swallowed());
        });
        sentences.promise(9, "Throws `IllegalStateException` if it is no LIVE", checks -> {
            for (int kind : new int[] {GROUP, TEXT, BUTTON, CHECK, EDIT, TABLE}) {
                checks.refused("kind " + kind, "IllegalStateException", () -> one(kind), desk -> desk.setManner(1, LOUD));
            }
            checks.refused("the screen", "IllegalStateException", PromisesOfTree::four, desk -> desk.setManner(0, LOUD));
            Bench bench = one(TABLE);
            bench.add(1, ROW, "");
            checks.state("kind " + ROW, () -> bench.desk.setManner(2, LOUD));
            checks.same("a LIVE", POLITE, one(LIVE).desk.setManner(1, LOUD));
            Bench twenty = Bench.twentyAlerts();
            checks.same("when 20 ALERTs wait", LOUD, Checks.answer(() -> twenty.desk.setManner(1, QUIET)));
        });
    }

    private static void counts(Sentences sentences) {
        sentences.promise(10, "Returns how many elements are there, the screen included.", checks -> {
            checks.same("the screen alone", 1, new BrailleDesk().elements());
            Bench bench = four();
            checks.same("without the one that is gone", 4, bench.desk.elements());
            bench.desk.hide(1, true);
            checks.same("hidden ones count", 4, bench.desk.elements());
            bench.desk.remove(1);
            checks.same("with all that was below it", 2, bench.desk.elements());
            checks.same("forty", 40, forty().desk.elements());
        });
        sentences.promise(11, "Returns the kind of an element.", checks -> {
            Bench bench = new Bench();
            for (int kind = GROUP; kind <= LIVE; kind++) {
                if (kind != ROW) {
                    int number = bench.add(0, kind, "");
                    checks.same("kind", kind, bench.desk.kind(number));
                }
            }
            int table = bench.add(0, TABLE, "");
            checks.same("ROW", ROW, bench.desk.kind(bench.add(table, ROW, "")));
            checks.same("the screen", GROUP, bench.desk.kind(0));
            checks.same("the last one of all", CHECK, forty().desk.kind(39));
        });
        sentences.promise(11, NO_ELEMENT, checks -> noElement(checks, (desk, element) -> desk.kind(element)));
    }

    private static void kinships(Sentences sentences) {
        sentences.promise(12, "Returns the parent of an element; NONE for the screen.", checks -> {
            Bench bench = four();
            checks.same("the screen", NONE, bench.desk.parent(0));
            checks.same("below the screen", 0, bench.desk.parent(1));
            checks.same("below another one", 1, bench.desk.parent(2));
        });
        sentences.promise(12, NO_ELEMENT, checks -> noElement(checks, (desk, element) -> desk.parent(element)));
        sentences.promise(13, "Returns how many children an element has, shown or not.", checks -> {
            Bench bench = four();
            checks.same("the screen", 2, bench.desk.children(0));
            checks.same("one", 1, bench.desk.children(1));
            checks.same("none", 0, bench.desk.children(2));
            bench.desk.hide(2, true);
            checks.same("a hidden one", 1, bench.desk.children(1));
            checks.same("ten", 10, tenChildren().desk.children(0));
        });
        sentences.promise(13, NO_ELEMENT, checks -> noElement(checks, (desk, element) -> desk.children(element)));
        sentences.promise(14, "Returns a child of an element, shown or not.", checks -> {
            Bench bench = tenChildren();
            for (int place = 0; place < 10; place++) {
                checks.same("place " + place, place + 1, bench.desk.childAt(0, place));
            }
            bench.desk.hide(1, true);
            checks.same("hidden", 1, bench.desk.childAt(0, 0));
        });
        sentences.promise(14, NO_ELEMENT + ", or it has no child at the place", checks -> {
            noElement(checks, (desk, element) -> desk.childAt(element, 0));
            for (int place : new int[] {-1, 2, 10, Integer.MIN_VALUE, Integer.MAX_VALUE}) {
                checks.refused("place " + place, "IndexOutOfBoundsException", PromisesOfTree::four,
                        desk -> desk.childAt(0, place));
            }
            checks.same("the last place", 4, four().desk.childAt(0, 1));
            checks.index("place 0 of none", () -> four().desk.childAt(4, 0));
            checks.index("place 10 of ten", () -> tenChildren().desk.childAt(0, 10));
            Bench removed = tenChildren();
            removed.desk.remove(10);
            checks.index("the place of one that is gone", () -> removed.desk.childAt(0, 9));
        });
    }

    private static void texts(Sentences sentences) {
        sentences.promise(15, "Returns how many characters the name of an element has.", checks -> {
            Bench bench = new Bench();
            for (int length = 0; length <= 12; length += 6) {
                int number = bench.add(0, BUTTON, FULL.substring(0, length));
                checks.same("length", length, bench.desk.nameLength(number));
            }
            checks.same("the screen", 0, bench.desk.nameLength(0));
        });
        sentences.promise(15, NO_ELEMENT, checks -> noElement(checks, (desk, element) -> desk.nameLength(element)));
        sentences.promise(16, "Returns the code of a character of the name of an element.", checks -> {
            Bench bench = new Bench();
            bench.add(0, TEXT, FULL);
            checks.same("the first one", (int) 'a', bench.desk.nameAt(1, 0));
            checks.same("the last one", (int) 'l', bench.desk.nameAt(1, 11));
        });
        sentences.promise(16, NO_ELEMENT + ", or its name has no such index", checks -> {
            noElement(checks, (desk, element) -> desk.nameAt(element, 0));
            for (int index : new int[] {-1, 1, 12, Integer.MIN_VALUE, Integer.MAX_VALUE}) {
                checks.refused("index " + index, "IndexOutOfBoundsException", PromisesOfTree::four,
                        desk -> desk.nameAt(1, index));
            }
            checks.same("the last index", (int) 'l', four().desk.nameAt(1, 0));
            checks.index("index 0 of none", () -> four().desk.nameAt(0, 0));
            Bench bench = new Bench();
            bench.add(0, TEXT, FULL);
            checks.index("index 12 of twelve", () -> bench.desk.nameAt(1, 12));
            bench.rename(1, "ab");
            checks.index("an index of the name before", () -> bench.desk.nameAt(1, 2));
        });
        sentences.promise(17, "Returns how many characters the content of an element has; 0 if it is no EDIT.", checks -> {
            for (int kind : new int[] {GROUP, TEXT, BUTTON, CHECK, EDIT, TABLE, LIVE}) {
                checks.same("kind " + kind, 0, one(kind).desk.contentLength(1));
            }
            Bench bench = typed(1);
            checks.same("one", 1, bench.desk.contentLength(1));
            checks.same("twelve", 12, typed(12).desk.contentLength(1));
        });
        sentences.promise(17, NO_ELEMENT, checks -> noElement(checks, (desk, element) -> desk.contentLength(element)));
        sentences.promise(18, "Returns the code of a character of the content of an EDIT.", checks -> {
            Bench bench = typed(12);
            checks.same("the first one", (int) 'a', bench.desk.contentAt(1, 0));
            checks.same("the last one", (int) 'b', bench.desk.contentAt(1, 11));
        });
        sentences.promise(18, NO_ELEMENT + ", or it has no content with such an index", checks -> {
            noElement(checks, (desk, element) -> desk.contentAt(element, 0));
            for (int index : new int[] {-1, 2, 12, Integer.MIN_VALUE, Integer.MAX_VALUE}) {
                checks.refused("index " + index, "IndexOutOfBoundsException", () -> typed(2),
                        desk -> desk.contentAt(1, index));
            }
            checks.same("the last index", (int) 'b', typed(2).desk.contentAt(1, 1));
            checks.index("index 12 of twelve", () -> typed(12).desk.contentAt(1, 12));
            for (int kind : new int[] {GROUP, TEXT, BUTTON, CHECK, EDIT, TABLE, LIVE}) {
                checks.index("index 0, kind " + kind, () -> one(kind).desk.contentAt(1, 0));
            }
        });
    }

    /** An EDIT in which so many characters were typed, the last one a b. */
    private static Bench typed(int count) {
        Bench bench = one(EDIT);
        bench.next();
        bench.act();
        for (int i = 1; i < count; i++) {
            bench.points("1");
        }
        bench.points("12");
        return bench;
    }

    private static void states(Sentences sentences) {
        sentences.promise(19, "Tells whether an element is a CHECK that is on.", checks -> {
            Bench bench = four();
            for (int element : new int[] {0, 1, 2, 4}) {
                checks.same("element " + element, false, bench.desk.isOn(element));
            }
            bench.desk.set(2, true);
            for (int element : new int[] {0, 1, 2, 4}) {
                checks.same("element " + element, element == 2, bench.desk.isOn(element));
            }
            bench.desk.hide(1, true);
            checks.same("hidden", true, bench.desk.isOn(2));
        });
        sentences.promise(19, NO_ELEMENT, checks -> noElement(checks, (desk, element) -> desk.isOn(element)));
        sentences.promise(20, "Returns how often an element was pressed; 0 if it is no BUTTON.", checks -> {
            for (int kind : new int[] {GROUP, TEXT, BUTTON, CHECK, EDIT, TABLE, LIVE}) {
                Bench bench = one(kind);
                checks.same("at first, kind " + kind, 0, bench.desk.presses(1));
                bench.next();
                bench.act();
                checks.same("behind ACT, kind " + kind, kind == BUTTON ? 1 : 0, bench.desk.presses(1));
            }
        });
        sentences.promise(20, NO_ELEMENT, checks -> noElement(checks, (desk, element) -> desk.presses(element)));
        sentences.promise(21, "Tells whether an element is shown.", checks -> {
            Bench bench = four();
            checks.same("shown", true, bench.desk.isShown(2));
            bench.desk.hide(1, true);
            checks.same("hidden", false, bench.desk.isShown(1));
            checks.same("below a hidden one", false, bench.desk.isShown(2));
            checks.same("the screen", true, bench.desk.isShown(0));
        });
        sentences.promise(21, NO_ELEMENT, checks -> noElement(checks, (desk, element) -> desk.isShown(element)));
        sentences.promise(22, "Returns the level of an element.", checks -> {
            Bench bench = four();
            checks.same("at first", PLAIN, bench.desk.level(2));
            bench.desk.setRule(1, MORE);
            checks.same("by its parent", MORE, bench.desk.level(2));
            bench.desk.hide(1, true);
            checks.same("hidden", MORE, bench.desk.level(2));
        });
        sentences.promise(22, NO_ELEMENT, checks -> noElement(checks, (desk, element) -> desk.level(element)));
    }

    private static void reading(Sentences sentences) {
        sentences.promise(23, "Returns how many elements are shown.", checks -> {
            checks.same("the screen alone", 1, new BrailleDesk().reading());
            Bench bench = four();
            checks.same("all", 4, bench.desk.reading());
            bench.desk.hide(1, true);
            checks.same("without the hidden ones", 2, bench.desk.reading());
            bench.desk.add(1, 0, TEXT);
            checks.same("one added below a hidden one", 2, bench.desk.reading());
            bench.desk.remove(4);
            checks.same("without the one that is gone", 1, bench.desk.reading());
            checks.same("forty", 40, forty().desk.reading());
        });
        sentences.promise(24, "Returns an element by the reading order.", checks -> {
            Bench bench = four();
            checks.same("the first one", 0, bench.desk.readingAt(0));
            checks.same("the last one", 4, bench.desk.readingAt(3));
        });
        sentences.promise(24, "- `place`: from 0 on", checks -> {
            Bench bench = forty();
            checks.index("place -1", () -> bench.desk.readingAt(-1));
            checks.same("place 0", 0, bench.desk.readingAt(0));
            checks.same("place 39", 39, bench.desk.readingAt(39));
            checks.index("place 40", () -> bench.desk.readingAt(40));
        });
        String words = "Throws `IndexOutOfBoundsException` if not so many are shown, or place is below 0";
        sentences.promise(24, words, checks -> {
            for (int place : new int[] {-1, 4, 40, Integer.MIN_VALUE, Integer.MAX_VALUE}) {
                checks.refused("place " + place, "IndexOutOfBoundsException", PromisesOfTree::four,
                        desk -> desk.readingAt(place));
            }
            Bench bench = four();
            bench.desk.hide(1, true);
            checks.same("the last one", 4, bench.desk.readingAt(1));
            checks.index("one too many", () -> bench.desk.readingAt(2));
            checks.index("behind the screen alone", () -> new BrailleDesk().readingAt(1));
        });
    }
}
