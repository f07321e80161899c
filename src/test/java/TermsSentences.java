import java.util.ArrayList;
import java.util.List;
import java.util.function.Supplier;

/** The sentences that "Terms" begins with: what is kept, and calls that are refused. */
final class TermsSentences extends Constants {
    private static final String TITLE = "Terms";
    private static final String INDEX = "IndexOutOfBoundsException";
    private static final String ARGUMENT = "IllegalArgumentException";
    private static final String STATE = "IllegalStateException";

    private TermsSentences() {
    }

    static void all(Sentences sentences) {
        calls(sentences);
        kept(sentences);
        nothingChanges(sentences);
        kindsOfExceptions(sentences);
        several(sentences);
    }

    private static void calls(Sentences sentences) {
        String title = "What it is";
        sentences.asksNoTest(title, "A reader of a screen for fingers and ears: a tree of elements that changes, a cursor "
                + "that goes over it, a line of pins in the letters of points, keys pressed together whose meaning "
                + "depends on the mode, speech in a queue that is cut and goes on, regions that tell what has changed "
                + "in them, and rules that say less or more by place.");
        String words = "An object is used for at most 512 calls after it has been made; what later calls answer is free.";
        sentences.term(title, 38, words, checks -> {
            BrailleDesk ticking = new BrailleDesk();
            for (int i = 1; i <= 510; i++) {
                ticking.tick(50);
            }
            checks.same("the 511th call", 0, ticking.tick(50));
            checks.same("the 512th call", 511 * 50, ticking.time());
            BrailleDesk pressed = new BrailleDesk();
            pressed.add(0, 0, BUTTON);
            pressed.chord(256 + 8);
            for (int i = 3; i <= 511; i++) {
                pressed.chord(256 + 128);
            }
            checks.same("the 512th call", 509, pressed.presses(1));
            BrailleDesk refused = new BrailleDesk();
            for (int i = 1; i <= 511; i++) {
                Checks.answer(() -> refused.kind(1));
            }
            checks.index("the 512th call is refused, too", () -> refused.kind(1));
        });
    }

    private static void anew(Checks checks, String what, Bench bench) {
        checks.same(what, bench.pinsAnew(), bench.pins());
    }

    private static void kept(Sentences sentences) {
        String words = "What the pins show is told from what is kept, and once more from the tree.";
        sentences.term(TITLE, 34, words, checks -> {
            Bench bench = new Bench();
            anew(checks, "at first", bench);
            bench.add(0, CHECK, "a");
            anew(checks, "add", bench);
            bench.next();
            anew(checks, "when the cursor comes to an element", bench);
            bench.rename(1, "bcdefghij");
            anew(checks, "rename", bench);
            bench.goRight();
            anew(checks, "RIGHT", bench);
            bench.desk.set(1, true);
            anew(checks, "set", bench);
            bench.act();
            anew(checks, "ACT at a CHECK", bench);
            bench.desk.setRule(1, LESS);
            anew(checks, "setRule", bench);
            bench.desk.setRule(1, NONE);
            bench.desk.setRule(0, LESS);
            anew(checks, "setRule above it", bench);
            bench.desk.remove(1);
            anew(checks, "remove", bench);
        });
        sentences.term(TITLE, 34, words, checks -> {
            Bench bench = new Bench();
            bench.add(0, EDIT, "e");
            bench.next();
            bench.act();
            anew(checks, "ACT at an EDIT", bench);
            bench.points("1");
            anew(checks, "a letter is typed", bench);
            checks.same("what that is", "1578 15 0 1 78 0 0 0 0 0", bench.pins());
            bench.points("7");
            anew(checks, "it is taken away", bench);
            bench.desk.press(7);
            anew(checks, "press", bench);
            bench.desk.release(7);
            anew(checks, "typing ends by release", bench);
            bench.act();
            bench.desk.hide(1, true);
            anew(checks, "hide", bench);
            bench.desk.hide(1, false);
            bench.tab();
            anew(checks, "TAB", bench);
        });
    }

    /** A call that is refused in any state. */
    private record Refused(String what, String due, Checks.BenchCall call) {
    }

    /** One typed, a capital is told, a text is being spoken, another one waits, a region keeps one. */
    private static Bench busy() {
        Bench bench = new Bench();
        bench.add(0, EDIT, "a1b2c3d4");
        bench.add(0, LIVE, "l");
        bench.add(2, CHECK, "c");
        bench.rename(3, "k");
        bench.tab();
        bench.act();
        bench.points("3456");
        bench.points("6");
        bench.goRight();
        bench.desk.tick(2);
        bench.draft("xy");
        return bench;
    }

    private static Bench pressing() {
        Bench bench = busy();
        bench.desk.press(0);
        bench.desk.press(8);
        bench.desk.release(8);
        return bench;
    }

    private static Bench fullDraft() {
        Bench bench = busy();
        bench.draft("abcdefghij");
        return bench;
    }

    private static List<Refused> always() {
        List<Refused> calls = new ArrayList<>();
        for (int none : new int[] {-1, 40}) {
            calls.add(new Refused("add", INDEX, desk -> desk.add(none, 0, TEXT)));
            calls.add(new Refused("remove", INDEX, desk -> desk.remove(none)));
            calls.add(new Refused("hide", INDEX, desk -> desk.hide(none, true)));
            calls.add(new Refused("rename", INDEX, desk -> desk.rename(none)));
            calls.add(new Refused("set", INDEX, desk -> desk.set(none, true)));
            calls.add(new Refused("setRule", INDEX, desk -> desk.setRule(none, LESS)));
            calls.add(new Refused("setManner", INDEX, desk -> desk.setManner(none, LOUD)));
            calls.add(new Refused("kind", INDEX, desk -> desk.kind(none)));
            calls.add(new Refused("parent", INDEX, desk -> desk.parent(none)));
            calls.add(new Refused("children", INDEX, desk -> desk.children(none)));
            calls.add(new Refused("childAt", INDEX, desk -> desk.childAt(none, 0)));
            calls.add(new Refused("nameLength", INDEX, desk -> desk.nameLength(none)));
            calls.add(new Refused("nameAt", INDEX, desk -> desk.nameAt(none, 0)));
            calls.add(new Refused("contentLength", INDEX, desk -> desk.contentLength(none)));
            calls.add(new Refused("contentAt", INDEX, desk -> desk.contentAt(none, 0)));
            calls.add(new Refused("isOn", INDEX, desk -> desk.isOn(none)));
            calls.add(new Refused("presses", INDEX, desk -> desk.presses(none)));
            calls.add(new Refused("isShown", INDEX, desk -> desk.isShown(none)));
            calls.add(new Refused("level", INDEX, desk -> desk.level(none)));
            calls.add(new Refused("wordsLength", INDEX, desk -> desk.wordsLength(none)));
            calls.add(new Refused("wordsAt", INDEX, desk -> desk.wordsAt(none, 0)));
        }
        calls.addAll(outOfRange());
        calls.add(new Refused("remove the screen", STATE, desk -> desk.remove(0)));
        calls.add(new Refused("hide the screen", STATE, desk -> desk.hide(0, true)));
        calls.add(new Refused("rename the screen", STATE, desk -> desk.rename(0)));
        calls.add(new Refused("set the screen", STATE, desk -> desk.set(0, true)));
        calls.add(new Refused("setManner of the screen", STATE, desk -> desk.setManner(0, LOUD)));
        calls.add(new Refused("add a ROW to the screen", STATE, desk -> desk.add(0, 0, ROW)));
        calls.add(new Refused("release a key that is not pressed", STATE, desk -> desk.release(5)));
        return calls;
    }

    private static List<Refused> outOfRange() {
        List<Refused> calls = new ArrayList<>();
        for (int bad : new int[] {-1, 100}) {
            calls.add(new Refused("childAt", INDEX, desk -> desk.childAt(0, bad)));
            calls.add(new Refused("nameAt", INDEX, desk -> desk.nameAt(1, bad)));
            calls.add(new Refused("contentAt", INDEX, desk -> desk.contentAt(1, bad)));
            calls.add(new Refused("readingAt", INDEX, desk -> desk.readingAt(bad)));
            calls.add(new Refused("wordsAt", INDEX, desk -> desk.wordsAt(0, bad)));
            calls.add(new Refused("press", INDEX, desk -> desk.press(bad)));
            calls.add(new Refused("release", INDEX, desk -> desk.release(bad)));
            calls.add(new Refused("pin", INDEX, desk -> desk.pin(bad)));
            calls.add(new Refused("pinAnew", INDEX, desk -> desk.pinAnew(bad)));
            calls.add(new Refused("heardAt", INDEX, desk -> desk.heardAt(bad)));
            calls.add(new Refused("draft", ARGUMENT, desk -> desk.draft(bad < 0 ? bad : 127)));
            calls.add(new Refused("add: place", ARGUMENT, desk -> desk.add(0, bad, TEXT)));
            calls.add(new Refused("add: kind", ARGUMENT, desk -> desk.add(0, 0, bad)));
            calls.add(new Refused("setRule", ARGUMENT, desk -> desk.setRule(0, bad < 0 ? -2 : bad)));
            calls.add(new Refused("setManner", ARGUMENT, desk -> desk.setManner(0, bad)));
            calls.add(new Refused("chord", ARGUMENT, desk -> desk.chord(bad < 0 ? bad : 512)));
            calls.add(new Refused("tick", ARGUMENT, desk -> desk.tick(bad)));
            calls.add(new Refused("waiting", ARGUMENT, desk -> desk.waiting(bad)));
        }
        return calls;
    }

    private static void everywhere(Checks checks, String due) {
        List<Supplier<Bench>> recipes = List.of(TermsSentences::busy, TermsSentences::pressing, TermsSentences::fullDraft,
                Bench::twentyAlerts, Bench::twentyOneAlerts);
        for (Refused refused : always()) {
            if (refused.due().equals(due)) {
                for (Supplier<Bench> recipe : recipes) {
                    checks.refused(refused.what(), due, recipe, refused.call());
                }
            }
        }
    }

    private static void nothingChanges(Sentences sentences) {
        sentences.term(TITLE, 2, "A call that throws an exception changes nothing.", checks -> {
            Bench one = busy();
            checks.same("two desks of the same calls can't be told apart", one.state(), busy().state());
            Bench other = busy();
            other.draft("z");
            checks.same("one can tell the draft", false, other.state().equals(busy().state()));
            Bench told = busy();
            told.points("56");
            told.points("12");
            checks.same("one can tell what was typed", false, told.state().equals(busy().state()));
            Bench later = busy();
            later.desk.tick(1);
            checks.same("one can tell the time", false, later.state().equals(busy().state()));
            Bench pressed = pressing();
            pressed.desk.press(3);
            pressed.desk.release(3);
            checks.same("one can tell the chord", false, pressed.state().equals(pressing().state()));
        });
    }

    private static void kindsOfExceptions(Sentences sentences) {
        sentences.term(TITLE, 11, "IndexOutOfBoundsException: there is no such element, key, place or index.", checks ->
                everywhere(checks, INDEX));
        sentences.term(TITLE, 37, "IllegalArgumentException: another argument is out of its range.", checks ->
                everywhere(checks, ARGUMENT));
        sentences.term(TITLE, 4, "IllegalStateException: as the method tells.", checks ->
                everywhere(checks, STATE));
    }

    private static void several(Sentences sentences) {
        String words = "If several apply, the one that the throws clause names first is thrown.";
        sentences.term(TITLE, 3, words, checks -> {
            Supplier<Bench> twenty = Bench::twentyAlerts;
            checks.refused("add: parent, place, kind, 20 ALERTs", INDEX, twenty, desk -> desk.add(9, -1, 8));
            checks.refused("add: parent, 20 ALERTs", INDEX, twenty, desk -> desk.add(9, 0, TEXT));
            checks.refused("add: place, 20 ALERTs", ARGUMENT, twenty, desk -> desk.add(0, -1, TEXT));
            checks.refused("add: kind, no children, 20 ALERTs", ARGUMENT, twenty, desk -> desk.add(2, 0, 8));
            checks.refused("remove: element, 20 ALERTs", INDEX, twenty, desk -> desk.remove(9));
            checks.refused("hide: element, 20 ALERTs", INDEX, twenty, desk -> desk.hide(9, true));
            checks.refused("rename: element, 20 ALERTs", INDEX, twenty, desk -> desk.rename(9));
            checks.refused("set: element, 20 ALERTs", INDEX, twenty, desk -> desk.set(9, true));
        });
        sentences.term(TITLE, 9, words, checks -> {
            Supplier<Bench> busy = TermsSentences::busy;
            checks.refused("setRule: element, level", INDEX, busy, desk -> desk.setRule(9, 3));
            checks.refused("setManner: element, manner", INDEX, busy, desk -> desk.setManner(9, 3));
            checks.refused("setManner: manner, no LIVE", ARGUMENT, busy, desk -> desk.setManner(1, 3));
            checks.refused("childAt: element, place", INDEX, busy, desk -> desk.childAt(9, -1));
            checks.refused("nameAt: element, index", INDEX, busy, desk -> desk.nameAt(9, -1));
            checks.refused("contentAt: element, index", INDEX, busy, desk -> desk.contentAt(9, -1));
            checks.refused("wordsAt: element, index", INDEX, busy, desk -> desk.wordsAt(9, -1));
        });
        sentences.term(TITLE, 36, words, checks -> {
            checks.refused("draft: code, 12 characters", ARGUMENT, TermsSentences::fullDraft, desk -> desk.draft(127));
            checks.refused("chord: keys, a key is pressed", ARGUMENT, TermsSentences::pressing, desk -> desk.chord(0));
            checks.refused("chord: keys, a key is pressed", ARGUMENT, TermsSentences::pressing, desk -> desk.chord(512));
            checks.refused("wordsAt: not shown, index", STATE, Bench::twentyOneAlerts, desk -> desk.wordsAt(2, -1));
            checks.refused("wordsAt: not shown, index", STATE, Bench::twentyOneAlerts, desk -> desk.wordsAt(2, 99));
        });
    }
}
