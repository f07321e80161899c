/** Promises 35 and 36, and what levels (8, 22) make of words. */
public final class WordsTest {
    private static final Checks checks = new Checks("WordsTest");

    public static void main(String[] args) {
        kinds();
        places();
        contents();
        asking();
        checks.finish();
    }

    private static void kinds() {
        String[] plain = {"a group", "a", "a button", "a check off", "a edit", "a table", "a row", "a live"};
        String[] less = {"a", "a", "a", "a off", "a", "a", "a", "a"};
        String[] nameless = {"group", "", "button", "check off", "edit", "table", "row", "live"};
        for (int kind = 0; kind < 8; kind++) {
            Bench bench = new Bench();
            int parent = kind == BrailleDesk.ROW ? bench.add(0, BrailleDesk.TABLE, "") : 0;
            int element = bench.add(parent, kind, "a");
            checks.same("36: PLAIN, kind " + kind, plain[kind], bench.words(element));
            bench.desk.setRule(element, BrailleDesk.LESS);
            checks.same("36: LESS, kind " + kind, less[kind], bench.words(element));
            bench.desk.rename(element);
            checks.same("36: LESS without a name, kind " + kind, nameless[kind], bench.words(element));
            bench.desk.setRule(element, BrailleDesk.NONE);
            checks.same("36: PLAIN without a name, kind " + kind, nameless[kind], bench.words(element));
            bench.desk.setRule(element, BrailleDesk.MORE);
            String more = nameless[kind].isEmpty() ? "1 of 1" : nameless[kind] + " 1 of 1";
            checks.same("36: MORE without a name, kind " + kind, more, bench.words(element));
            bench.rename(element, "a");
            checks.same("36: MORE, kind " + kind, plain[kind] + " 1 of 1", bench.words(element));
        }
        Bench bench = new Bench();
        checks.same("36: the screen", "group", bench.words(0));
        bench.desk.setRule(0, BrailleDesk.MORE);
        checks.same("36: the screen by MORE", "group", bench.words(0));
        bench.desk.setRule(0, BrailleDesk.LESS);
        checks.same("36: the screen by LESS", "group", bench.words(0));
        bench.add(0, BrailleDesk.BUTTON, "go");
        checks.same("36: by the rule of the parent", "go", bench.words(1));
        bench.add(0, BrailleDesk.CHECK, "ok");
        bench.desk.set(2, true);
        checks.same("36: a CHECK that is on", "ok on", bench.words(2));
        bench.rename(1, " ");
        checks.same("36: a space is a name", " ", bench.words(1));
        bench.rename(1, "\uD834\uDD1E");
        checks.same("36: a character beyond", "\uD834\uDD1E", bench.words(1));
        checks.same("35: is one", 1, bench.desk.wordsLength(1));
    }

    private static void places() {
        Bench bench = new Bench();
        bench.desk.setRule(0, BrailleDesk.MORE);
        for (int i = 0; i < 10; i++) {
            bench.add(0, BrailleDesk.TEXT, "t");
        }
        checks.same("36: the first of ten", "t 1 of 10", bench.words(1));
        checks.same("36: the tenth of ten", "t 10 of 10", bench.words(10));
        checks.same("35: the tenth of ten", 10, bench.desk.wordsLength(10));
        bench.desk.hide(2, true);
        bench.desk.hide(5, true);
        checks.same("36: ahead of what is hidden", "t 1 of 8", bench.words(1));
        checks.same("36: behind what is hidden", "t 2 of 8", bench.words(3));
        checks.same("36: behind all that is hidden", "t 8 of 8", bench.words(10));
        bench.desk.remove(1);
        checks.same("36: behind what is gone", "t 7 of 7", bench.words(10));
        bench.desk.setRule(10, BrailleDesk.PLAIN);
        checks.same("36: its own rule", "t", bench.words(10));
    }

    private static void contents() {
        Bench bench = new Bench();
        bench.add(0, BrailleDesk.EDIT, "name");
        bench.next();
        bench.act();
        checks.same("36: no content", "name edit", bench.words(1));
        bench.points("1");
        bench.points("12");
        checks.same("36: a content", "name edit ab", bench.words(1));
        bench.desk.setRule(1, BrailleDesk.LESS);
        checks.same("36: a content by LESS", "name ab", bench.words(1));
        bench.desk.rename(1);
        checks.same("36: a content by LESS without a name", "edit ab", bench.words(1));
        bench.desk.setRule(1, BrailleDesk.MORE);
        checks.same("36: a content by MORE", "edit ab 1 of 1", bench.words(1));
    }

    private static void asking() {
        Bench bench = new Bench();
        bench.add(0, BrailleDesk.GROUP, "g");
        bench.add(1, BrailleDesk.BUTTON, "b");
        checks.same("35: length", 8, bench.desk.wordsLength(2));
        checks.same("36: the last one", (int) 'n', bench.desk.wordsAt(2, 7));
        checks.index("36: index 8", () -> bench.desk.wordsAt(2, 8));
        checks.index("36: index -1", () -> bench.desk.wordsAt(2, -1));
        checks.index("36: no such element", () -> bench.desk.wordsAt(3, 0));
        checks.index("36: no element -1", () -> bench.desk.wordsAt(-1, -1));
        checks.index("35: no such element", () -> bench.desk.wordsLength(3));
        checks.index("35: no element 40", () -> bench.desk.wordsLength(40));
        bench.desk.hide(1, true);
        checks.state("35: hidden", () -> bench.desk.wordsLength(1));
        checks.state("35: below what is hidden", () -> bench.desk.wordsLength(2));
        checks.state("36: hidden", () -> bench.desk.wordsAt(1, 0));
        checks.state("36: hidden, and no such index", () -> bench.desk.wordsAt(2, 99));
        bench.desk.remove(1);
        checks.index("35: gone", () -> bench.desk.wordsLength(2));
        checks.index("36: gone", () -> bench.desk.wordsAt(2, 0));
    }
}
