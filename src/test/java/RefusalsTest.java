import java.util.function.Supplier;

/** A call that throws an exception changes nothing: every throws clause, on a desk in the midst of its work. */
public final class RefusalsTest {
    private static final Checks checks = new Checks("RefusalsTest");
    private static final String INDEX = "IndexOutOfBoundsException";
    private static final String ARGUMENT = "IllegalArgumentException";
    private static final String STATE = "IllegalStateException";

    public static void main(String[] args) {
        changes();
        keys();
        asking();
        manyAlerts();
        checks.finish();
    }

    /** A draft, a kept text, a text that is being spoken, others that wait, typing with an offset. */
    private static Bench busy() {
        Bench bench = new Bench();
        bench.add(0, BrailleDesk.EDIT, "a1b2c3d4");
        bench.add(0, BrailleDesk.LIVE, "l");
        bench.add(2, BrailleDesk.CHECK, "c");
        bench.rename(3, "k");
        bench.add(0, BrailleDesk.GROUP, "g");
        bench.add(4, BrailleDesk.BUTTON, "b");
        bench.desk.hide(4, true);
        bench.tab();
        bench.act();
        bench.points("6");
        bench.goRight();
        bench.desk.tick(2);
        bench.draft("xy");
        return bench;
    }

    private static Bench crowded() {
        Bench bench = new Bench();
        bench.add(0, BrailleDesk.LIVE, "l");
        bench.desk.setManner(1, BrailleDesk.LOUD);
        bench.add(1, BrailleDesk.CHECK, "c");
        for (int i = 0; i < 19; i++) {
            bench.desk.set(2, i % 2 == 0);
        }
        bench.draft("xy");
        return bench;
    }

    private static Bench pressing() {
        Bench bench = busy();
        bench.desk.press(0);
        bench.desk.press(8);
        bench.desk.release(8);
        return bench;
    }

    private static Bench fullDraft() {
        Bench bench = new Bench();
        bench.add(0, BrailleDesk.TEXT, "t");
        bench.draft("abcdefghijkl");
        return bench;
    }

    private static void refused(String what, String due, Supplier<Bench> recipe, Checks.BenchCall call) {
        checks.refused(what, due, recipe, call);
    }

    private static void busyRefuses(String what, String due, Checks.BenchCall call) {
        checks.refused(what, due, RefusalsTest::busy, call);
    }

    private static void changes() {
        busyRefuses("2: draft", ARGUMENT, desk -> desk.draft(200));
        refused("2: full draft", STATE, RefusalsTest::fullDraft, desk -> desk.draft('x'));
        busyRefuses("3: parent", INDEX, desk -> desk.add(6, 0, 1));
        busyRefuses("3: parent, place, kind", INDEX, desk -> desk.add(-1, -1, -1));
        busyRefuses("3: place", ARGUMENT, desk -> desk.add(0, 4, 1));
        busyRefuses("3: kind", ARGUMENT, desk -> desk.add(0, 0, 8));
        busyRefuses("3: child of an EDIT", STATE, desk -> desk.add(1, 0, 1));
        busyRefuses("3: ROW in a GROUP", STATE, desk -> desk.add(0, 0, BrailleDesk.ROW));
        busyRefuses("4: none", INDEX, desk -> desk.remove(6));
        busyRefuses("4: screen", STATE, desk -> desk.remove(0));
        busyRefuses("5: none", INDEX, desk -> desk.hide(6, true));
        busyRefuses("5: screen", STATE, desk -> desk.hide(0, true));
        busyRefuses("6: none", INDEX, desk -> desk.rename(6));
        busyRefuses("6: screen", STATE, desk -> desk.rename(0));
        busyRefuses("7: none", INDEX, desk -> desk.set(6, true));
        busyRefuses("7: no CHECK", STATE, desk -> desk.set(1, true));
        busyRefuses("8: none", INDEX, desk -> desk.setRule(6, 0));
        busyRefuses("8: none, no level", INDEX, desk -> desk.setRule(6, 7));
        busyRefuses("8: no level", ARGUMENT, desk -> desk.setRule(1, 3));
        busyRefuses("9: none", INDEX, desk -> desk.setManner(6, 0));
        busyRefuses("9: no manner", ARGUMENT, desk -> desk.setManner(2, 3));
        busyRefuses("9: no manner, no LIVE", ARGUMENT, desk -> desk.setManner(1, -1));
        busyRefuses("9: no LIVE", STATE, desk -> desk.setManner(1, 0));
    }

    private static void keys() {
        busyRefuses("25: key", INDEX, desk -> desk.press(9));
        busyRefuses("26: key", INDEX, desk -> desk.release(-1));
        busyRefuses("26: not pressed", STATE, desk -> desk.release(0));
        busyRefuses("27: no key", ARGUMENT, desk -> desk.chord(0));
        busyRefuses("27: too many", ARGUMENT, desk -> desk.chord(512));
        Supplier<Bench> recipe = RefusalsTest::pressing;
        refused("25: pressed", STATE, recipe, desk -> desk.press(0));
        refused("26: released", STATE, recipe, desk -> desk.release(8));
        refused("27: pressed", STATE, recipe, desk -> desk.chord(264));
        Bench bench = pressing();
        Checks.answer(() -> bench.desk.press(0));
        Checks.answer(() -> bench.desk.release(7));
        Checks.answer(() -> bench.desk.chord(1));
        bench.desk.release(0);
        checks.same("26: the chord is the one that was pressed", 0, bench.desk.cursor());
    }

    private static void asking() {
        busyRefuses("11: none", INDEX, desk -> desk.kind(6));
        busyRefuses("14: no place", INDEX, desk -> desk.childAt(0, 3));
        busyRefuses("16: no index", INDEX, desk -> desk.nameAt(1, 8));
        busyRefuses("18: no index", INDEX, desk -> desk.contentAt(1, 0));
        busyRefuses("24: no place", INDEX, desk -> desk.readingAt(4));
        busyRefuses("33: no pin", INDEX, desk -> desk.pin(10));
        busyRefuses("34: no pin", INDEX, desk -> desk.pinAnew(10));
        busyRefuses("35: none", INDEX, desk -> desk.wordsLength(6));
        busyRefuses("35: hidden", STATE, desk -> desk.wordsLength(5));
        busyRefuses("36: none", INDEX, desk -> desk.wordsAt(6, 0));
        busyRefuses("36: hidden", STATE, desk -> desk.wordsAt(5, 99));
        busyRefuses("36: no index", INDEX, desk -> desk.wordsAt(2, 99));
        busyRefuses("37: no tick", ARGUMENT, desk -> desk.tick(0));
        busyRefuses("37: too many", ARGUMENT, desk -> desk.tick(51));
        busyRefuses("41: no priority", ARGUMENT, desk -> desk.waiting(3));
        busyRefuses("43: not so many", INDEX, desk -> desk.heardAt(2));
    }

    private static void manyAlerts() {
        Supplier<Bench> recipe = RefusalsTest::crowded;
        refused("3: 20 ALERTs", STATE, recipe, desk -> desk.add(0, 0, 1));
        refused("4: 20 ALERTs", STATE, recipe, desk -> desk.remove(2));
        refused("5: 20 ALERTs", STATE, recipe, desk -> desk.hide(2, true));
        refused("6: 20 ALERTs", STATE, recipe, desk -> desk.rename(2));
        refused("7: 20 ALERTs", STATE, recipe, desk -> desk.set(2, false));
    }
}
