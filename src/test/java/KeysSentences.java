import java.util.Set;

/** The sentences of "Keys", but for those of typing. */
final class KeysSentences extends Constants {
    private static final String TITLE = "Keys";
    private static final Set<String> COMMANDS =
            Set.of("1", "4", "3", "6", "2", "5", "2345", "8", "7", "123", "456", "1235");

    private KeysSentences() {
    }

    static void all(Sentences sentences) {
        keys(sentences);
        chords(sentences);
        commands(sentences);
        previousAndNext(sentences);
        outAndIn(sentences);
        upAndDown(sentences);
        tab(sentences);
        goes(sentences);
        rowHeads(sentences);
        columnHeads(sentences);
        act(sentences);
        others(sentences);
        letters(sentences);
    }

    private static void keys(Sentences sentences) {
        sentences.term(TITLE, 25, "The keys 0 to 7 are for the points 1 to 8, the key 8 is the space.", checks -> {
            for (int key = 0; key < 8; key++) {
                Bench bench = new Bench();
                bench.add(0, EDIT, "e");
                bench.next();
                bench.act();
                bench.desk.press(key);
                bench.desk.release(key);
                String due = key == 0 ? "a" : key == 1 ? "," : "";
                checks.same("key " + key + " alone, while one types", due, bench.content(1));
                checks.same("key " + key + ": typing", key != 7, bench.desk.isTyping());
            }
            Bench bench = new Bench();
            bench.add(0, EDIT, "e");
            bench.next();
            bench.act();
            bench.desk.press(8);
            bench.desk.release(8);
            checks.same("key 8 alone, while one types", " ", bench.content(1));
        });
        sentences.term(TITLE, 25, "The keys 0 to 7 are for the points 1 to 8, the key 8 is the space.", checks -> {
            BrailleDesk desk = new BrailleDesk();
            checks.index("press -1", () -> desk.press(-1));
            checks.index("press 9", () -> desk.press(9));
            checks.index("release -1", () -> desk.release(-1));
            checks.index("release 9", () -> desk.release(9));
            checks.same("press 0", 1, desk.press(0));
            checks.same("press 8", 2, desk.press(8));
            checks.same("release 0", 1, desk.release(0));
            checks.same("release 8", 0, desk.release(8));
        });
    }

    private static Bench three() {
        Bench bench = new Bench();
        bench.add(0, TEXT, "a");
        bench.add(0, TEXT, "b");
        return bench;
    }

    private static void press(Bench bench, int... keys) {
        for (int key : keys) {
            bench.desk.press(key);
        }
    }

    private static void release(Bench bench, int... keys) {
        for (int key : keys) {
            bench.desk.release(key);
        }
    }

    private static void chords(Sentences sentences) {
        String begins = "A chord begins when a key is pressed while none is, and has all keys that are pressed from then on;";
        sentences.term(TITLE, 26, begins, checks -> {
            Bench bench = three();
            press(bench, 8, 3);
            release(bench, 8, 3);
            checks.same("space and 4: NEXT", 1, bench.desk.cursor());
            press(bench, 3, 8);
            release(bench, 8, 3);
            checks.same("the same in another order", 2, bench.desk.cursor());
            press(bench, 8);
            release(bench, 8);
            press(bench, 0);
            release(bench, 0);
            checks.same("two chords of a key each", 2, bench.desk.cursor());
            press(bench, 8, 0);
            release(bench, 0, 8);
            checks.same("the chord before is forgotten", 1, bench.desk.cursor());
        });
        sentences.term(TITLE, 26, begins, checks -> {
            Bench bench = three();
            press(bench, 8, 1);
            release(bench, 1);
            press(bench, 0);
            release(bench, 0);
            press(bench, 2);
            release(bench, 8, 2);
            checks.same("keys released ahead of the last one belong to it: 123 is LEFT", 0, bench.desk.cursor());
            press(bench, 8, 3);
            release(bench, 3);
            press(bench, 3);
            release(bench, 3, 8);
            checks.same("a key pressed twice counts once", 1, bench.desk.cursor());
        });
        String done = "when the last one of those pressed is released, it is done.";
        sentences.term(TITLE, 26, done, checks -> {
            Bench bench = three();
            press(bench, 8, 3);
            checks.same("pressed", 0, bench.desk.cursor());
            release(bench, 3);
            checks.same("one is still pressed", 0, bench.desk.cursor());
            checks.state("meanwhile there is no other chord", () -> bench.desk.chord(264));
            release(bench, 8);
            checks.same("the last one is released", 1, bench.desk.cursor());
            checks.state("it can't be released again", () -> bench.desk.release(8));
            checks.same("it is done once", 1, bench.desk.cursor());
        });
        sentences.term(TITLE, 26, done, checks -> {
            Bench bench = three();
            press(bench, 8, 3);
            bench.desk.hide(1, true);
            release(bench, 8, 3);
            checks.same("by the tree as it is then", 2, bench.desk.cursor());
        });
    }

    private static void commands(Sentences sentences) {
        String words = "Chords with the space and points are commands, by these: 1 PREVIOUS, 4 NEXT, 3 OUT, 6 IN, 2 UP, "
                + "5 DOWN, 2345 TAB, 8 ACT, 7 HUSH, 123 LEFT, 456 RIGHT, 1235 AGAIN;";
        sentences.term(TITLE, 27, words, checks -> {
            Bench bench = table();
            checks.same("4 NEXT", 1, bench.command("4"));
            checks.same("1 PREVIOUS", 0, bench.command("1"));
            checks.same("6 IN", 1, bench.command("6"));
            checks.same("6 IN", 2, bench.command("6"));
            checks.same("6 IN", 3, bench.command("6"));
            checks.same("5 DOWN", 6, bench.command("5"));
            checks.same("2 UP", 3, bench.command("2"));
            checks.same("3 OUT", 2, bench.command("3"));
            checks.same("2345 TAB", 3, bench.command("2345"));
            bench.command("8");
            checks.same("8 ACT", 1, bench.desk.presses(3));
            bench.command("456");
            checks.same("456 RIGHT", 10, bench.desk.offset());
            bench.command("123");
            checks.same("123 LEFT", 0, bench.desk.offset());
            bench.command("7");
            checks.same("7 HUSH", 0, bench.desk.waiting(ANSWER));
            bench.command("1235");
            checks.same("1235 AGAIN", 1, bench.desk.waiting(ANSWER));
        });
        sentences.term(TITLE, 27, words, checks -> {
            for (String points : new String[] {"6", "2", "5", "8", "7", "1235"}) {
                Bench bench = new Bench();
                bench.add(0, BUTTON, "abcdefghijkl");
                bench.next();
                bench.goRight();
                bench.command(points);
                checks.same("the offset behind " + points, 10, bench.desk.offset());
                checks.same("the cursor behind " + points, 1, bench.desk.cursor());
                checks.same("presses behind " + points, points.equals("8") ? 1 : 0, bench.desk.presses(1));
                checks.same("focus behind " + points, points.equals("8") ? 1 : NONE, bench.desk.focus());
                checks.same("answers behind " + points, points.equals("7") ? 0 : 1, bench.desk.waiting(ANSWER));
            }
        });
        sentences.term(TITLE, 27, "with other points nothing is done.", checks -> {
            for (int from = 1; from < 256; from += 64) {
                Bench bench = new Bench();
                bench.add(0, BUTTON, "abcdefghijkl");
                bench.add(0, BUTTON, "a");
                bench.add(0, EDIT, "e");
                bench.next();
                bench.goRight();
                for (int points = from; points < from + 64 && points < 256; points++) {
                    if (!COMMANDS.contains(Bench.points(points))) {
                        bench.desk.chord(256 | points);
                    }
                }
                checks.same("cursor from " + from, 1, bench.desk.cursor());
                checks.same("offset", 10, bench.desk.offset());
                checks.same("focus", NONE, bench.desk.focus());
                checks.same("presses", 0, bench.desk.presses(1));
                checks.same("nothing was dropped", 0, bench.desk.dropped());
                checks.same("what was told waits still", "abcdefghijkl button", bench.listen(50));
            }
        });
        sentences.term(TITLE, 27, "with other points nothing is done.", checks -> {
            Bench bench = new Bench();
            bench.add(0, EDIT, "e");
            bench.tab();
            bench.act();
            bench.points("6");
            for (int points = 1; points < 256; points++) {
                if (!COMMANDS.contains(Bench.points(points))) {
                    bench.desk.chord(256 | points);
                }
            }
            checks.same("while one types: typing", true, bench.desk.isTyping());
            checks.same("while one types: content", "", bench.content(1));
            bench.points("1");
            checks.same("while one types: the capital stays told", "A", bench.content(1));
        });
    }

    /** A TABLE 1 of three ROWs, 2, 5 and 8, of two BUTTONs each; the first one's line is long. */
    private static Bench table() {
        Bench bench = new Bench();
        bench.add(0, TABLE, "t");
        for (String names : new String[] {"abcdefghijkl b", "c d", "e f"}) {
            int row = bench.add(1, ROW, "");
            for (String name : names.split(" ")) {
                bench.add(row, BUTTON, name);
            }
        }
        return bench;
    }

    private static Bench go(Bench bench, int element) {
        for (int i = 0; i < 40 && bench.desk.cursor() != element; i++) {
            bench.next();
        }
        return bench;
    }

    private static void previousAndNext(Sentences sentences) {
        String words = "PREVIOUS, NEXT: the cursor goes to the element right ahead of it, or behind it, in the reading "
                + "order;";
        sentences.term(TITLE, 27, words, checks -> {
            Bench bench = table();
            for (int element = 1; element <= 10; element++) {
                checks.same("NEXT", element, bench.next());
            }
            for (int element = 9; element >= 0; element--) {
                checks.same("PREVIOUS", element, bench.previous());
            }
            bench.desk.hide(2, true);
            bench.next();
            checks.same("NEXT past a hidden one and what is below it", 5, bench.next());
            checks.same("PREVIOUS past it", 1, bench.previous());
        });
        sentences.term(TITLE, 27, "if there is none, the answer is \"end\".", checks -> {
            Bench bench = three();
            checks.same("PREVIOUS at the screen", "end", bench.told(bench::previous));
            checks.same("it stays", 0, bench.desk.cursor());
            checks.same("PREVIOUS to the screen", "group", go(bench, 1).told(bench::previous));
            checks.same("NEXT to the last one", "b", go(bench, 1).told(bench::next));
            checks.same("NEXT at the last one", "end", bench.told(bench::next));
            checks.same("it stays", 2, bench.desk.cursor());
            Bench alone = new Bench();
            checks.same("NEXT at the screen alone", "end", alone.told(alone::next));
        });
        sentences.term(TITLE, 27, "if there is none, the answer is \"end\".", checks -> {
            Bench bench = new Bench();
            bench.add(0, EDIT, "e");
            bench.tab();
            bench.act();
            checks.same("NEXT while one types", "end", bench.told(bench::next));
            checks.same("the cursor went nowhere, and typing goes on", true, bench.desk.isTyping());
        });
    }

    private static void outAndIn(Sentences sentences) {
        sentences.term(TITLE, 27, "OUT: it goes to the parent,", checks -> {
            Bench bench = go(table(), 10);
            checks.same("of the last place", 8, bench.out());
            checks.same("of a ROW", 1, bench.out());
            checks.same("to the screen", 0, bench.out());
        });
        sentences.term(TITLE, 27, "IN: to the first child that is shown;", checks -> {
            Bench bench = table();
            checks.same("of the screen", 1, bench.in());
            checks.same("of a TABLE", 2, bench.in());
            bench.desk.hide(3, true);
            checks.same("past a hidden one", 4, bench.in());
            bench.out();
            bench.addAt(2, 0, BUTTON, "new");
            checks.same("one added at place 0", 11, bench.in());
        });
        String words = "without a parent, or such a child, the answer is \"none\".";
        sentences.term(TITLE, 27, words, checks -> {
            Bench bench = three();
            checks.same("OUT at the screen", "none", bench.told(bench::out));
            checks.same("OUT below it", "group", go(bench, 1).told(bench::out));
            checks.same("IN, to a child", "a", bench.told(bench::in));
            checks.same("IN, without a child", "none", bench.told(bench::in));
            checks.same("it stays", 1, bench.desk.cursor());
            bench.out();
            bench.desk.hide(1, true);
            bench.desk.hide(2, true);
            checks.same("IN, when all children are hidden", "none", bench.told(bench::in));
            checks.same("it stays", 0, bench.desk.cursor());
        });
    }

    private static void upAndDown(Sentences sentences) {
        String words = "UP, DOWN: if its parent is a ROW, it goes to the nearest ROW of the table ahead of that one, "
                + "or behind it, that is shown and has at the same place a child that is shown, and there to that child;";
        sentences.term(TITLE, 27, words, checks -> {
            Bench bench = go(table(), 3);
            checks.same("DOWN", 6, bench.down());
            checks.same("DOWN to the last one", 9, bench.down());
            checks.same("UP", 6, bench.up());
            checks.same("UP to the first one", 3, bench.up());
            go(bench, 4);
            checks.same("DOWN at the place 1", 7, bench.down());
            checks.same("UP at the place 1", 4, bench.up());
        });
        sentences.term(TITLE, 27, words, checks -> {
            Bench row = go(table(), 3);
            row.desk.hide(5, true);
            checks.same("DOWN past a hidden ROW", 9, row.down());
            checks.same("UP past a hidden ROW", 3, row.up());
            Bench child = go(table(), 3);
            child.desk.hide(6, true);
            checks.same("DOWN past a hidden child", 9, child.down());
            checks.same("UP past a hidden child", 3, child.up());
            Bench none = go(table(), 4);
            none.desk.remove(7);
            checks.same("DOWN past a ROW without such a place", 10, none.down());
            checks.same("UP past a ROW without such a place", 4, none.up());
            Bench ahead = go(table(), 4);
            ahead.desk.hide(6, true);
            checks.same("a hidden child ahead counts as a place", 7, ahead.down());
            ahead.desk.remove(6);
            checks.same("from the place 0 then", 3, ahead.up());
        });
        sentences.term(TITLE, 27, "if there is none, the answer is \"end\";", checks -> {
            Bench bench = go(table(), 3);
            checks.same("UP in the first ROW", "end", bench.told(bench::up));
            checks.same("it stays", 3, bench.desk.cursor());
            go(bench, 9);
            checks.same("DOWN in the last ROW", "end", bench.told(bench::down));
            checks.same("it stays", 9, bench.desk.cursor());
            bench.desk.hide(3, true);
            bench.desk.hide(6, true);
            checks.same("UP, when none has such a child that is shown", "end", bench.told(bench::up));
        });
        sentences.term(TITLE, 27, "if its parent is no ROW, \"none\".", checks -> {
            Bench bench = table();
            checks.same("UP at the screen", "none", bench.told(bench::up));
            checks.same("DOWN at the screen", "none", bench.told(bench::down));
            bench.next();
            checks.same("DOWN at a TABLE", "none", bench.told(bench::down));
            bench.next();
            checks.same("DOWN at a ROW", "none", bench.told(bench::down));
            checks.same("UP at a ROW", "none", bench.told(bench::up));
            checks.same("it stays", 2, bench.desk.cursor());
            Bench groups = new Bench();
            for (int group = 1; group <= 5; group += 2) {
                groups.add(0, GROUP, "");
                groups.add(group, TEXT, "x");
            }
            go(groups, 4);
            checks.same("UP in a GROUP between others", "none", groups.told(groups::up));
            checks.same("DOWN in a GROUP between others", "none", groups.told(groups::down));
            checks.same("it stays", 4, groups.desk.cursor());
        });
        sentences.term(TITLE, 27, words, checks -> {
            Bench bench = new Bench();
            bench.add(0, TABLE, "");
            for (int i = 0; i < 10; i++) {
                bench.add(bench.add(1, ROW, ""), TEXT, "x");
            }
            for (int row = 4; row <= 18; row += 2) {
                bench.desk.hide(row, true);
            }
            go(bench, 3);
            checks.same("DOWN from the first of ten ROWs to the last one", 21, bench.down());
            checks.same("UP from the last one to the first one", 3, bench.up());
        });
    }

    private static void tab(Sentences sentences) {
        String words = "TAB: it goes to the next BUTTON, CHECK or EDIT behind it in the reading order,";
        sentences.term(TITLE, 27, words, checks -> {
            Bench bench = new Bench();
            bench.add(0, TEXT, "");
            bench.add(0, BUTTON, "");
            bench.add(0, LIVE, "");
            bench.add(3, CHECK, "");
            bench.add(0, TABLE, "");
            bench.add(5, ROW, "");
            bench.add(6, EDIT, "");
            bench.add(0, GROUP, "");
            checks.same("to the BUTTON", 2, bench.tab());
            checks.same("to the CHECK", 4, bench.tab());
            checks.same("to the EDIT", 7, bench.tab());
            bench.desk.hide(2, true);
            bench.previous();
            bench.previous();
            checks.same("it begins at the cursor, not at the focus", 7, bench.tab());
        });
        String otherwise = "otherwise to the first one in that order (it goes there also if that is where it is),";
        sentences.term(TITLE, 27, otherwise, checks -> {
            Bench bench = new Bench();
            bench.add(0, BUTTON, "a");
            bench.add(0, BUTTON, "b");
            bench.add(0, TEXT, "c");
            bench.tab();
            bench.tab();
            checks.same("from the last one", 1, bench.tab());
            go(bench, 3);
            checks.same("from behind the last one", 1, bench.tab());
            bench.desk.hide(1, true);
            checks.same("the first one that is shown", "b button", bench.told(bench::tab));
            checks.same("where it is", "b button", bench.told(bench::tab));
            checks.same("the cursor", 2, bench.desk.cursor());
        });
        sentences.term(TITLE, 27, "(it goes there also if that is where it is)", checks -> {
            Bench bench = new Bench();
            bench.add(0, EDIT, "e");
            bench.next();
            bench.act();
            bench.points("1");
            checks.same("its words are told", "e edit a", bench.told(bench::tab));
            checks.same("typing ends", false, bench.desk.isTyping());
        });
        sentences.term(TITLE, 29, "and the focus, too;", checks -> {
            Bench bench = new Bench();
            bench.add(0, BUTTON, "a");
            bench.add(0, CHECK, "b");
            bench.tab();
            checks.same("to the next one", 1, bench.desk.focus());
            bench.tab();
            checks.same("to the one behind", 2, bench.desk.focus());
            bench.desk.hide(1, true);
            bench.desk.hide(2, true);
            bench.desk.hide(2, false);
            checks.same("lost", NONE, bench.desk.focus());
            bench.next();
            bench.tab();
            checks.same("to where the cursor is", 2, bench.desk.focus());
        });
        sentences.term(TITLE, 27, "if there is none at all, the answer is \"none\".", checks -> {
            Bench bench = three();
            checks.same("without such an element", "none", bench.told(bench::tab));
            checks.same("it stays", 0, bench.desk.cursor());
            checks.same("focus", NONE, bench.desk.focus());
            bench.add(0, BUTTON, "c");
            bench.desk.hide(3, true);
            checks.same("when it is hidden", "none", bench.told(bench::tab));
            bench.desk.hide(3, false);
            checks.same("when it is shown", "c button", bench.told(bench::tab));
        });
    }

    private static void goes(Sentences sentences) {
        String words = "When the cursor goes to an element by a command or a letter, typing ends,";
        sentences.term(TITLE, 30, words, checks -> {
            for (String points : new String[] {"1", "4", "3", "2345"}) {
                Bench bench = new Bench();
                bench.add(0, EDIT, "e");
                bench.add(0, TEXT, "t");
                bench.next();
                bench.act();
                checks.same("ahead of the command " + points, true, bench.desk.isTyping());
                bench.command(points);
                checks.same("behind the command " + points, false, bench.desk.isTyping());
            }
            Bench bench = new Bench();
            bench.add(0, EDIT, "e");
            bench.next();
            bench.act();
            for (String points : new String[] {"2", "5", "6", "4", "7", "123", "456", "1235", "8"}) {
                bench.command(points);
                checks.same("when it goes nowhere by the command " + points, true, bench.desk.isTyping());
            }
        });
        String parts = "and the answer is these parts, those that are empty left out, with one space between any two:";
        sentences.term(TITLE, 27, parts, checks -> {
            checks.same("all three parts", "h k y button", corner("h", "k", "y"));
            checks.same("the first one is empty", "k y button", corner("", "k", "y"));
            checks.same("the second one is empty", "h y button", corner("h", "", "y"));
            checks.same("both are empty", "y button", corner("", "", "y"));
            checks.same("the words without a name", "h k button", corner("h", "k", ""));
        });
        sentences.term(TITLE, 27, "and then its words.", checks -> {
            Bench bench = three();
            checks.same("by a command", "a", bench.told(bench::next));
            bench.rename(2, "");
            bench.desk.tick(50);
            bench.next();
            checks.same("empty words do not come", 0, bench.desk.waiting(ANSWER));
            bench.add(0, LIVE, "l");
            checks.same("by a letter", "l live", bench.told(() -> bench.points("123")));
        });
    }

    /** A TABLE of two ROWs of two; from the place 0 of the first one to the place 1 of the second one. */
    private static String corner(String rowHead, String columnHead, String name) {
        Bench bench = new Bench();
        bench.add(0, TABLE, "");
        bench.add(1, ROW, "");
        bench.add(2, BUTTON, "");
        bench.add(2, TEXT, columnHead);
        bench.add(1, ROW, "");
        bench.add(5, TEXT, rowHead);
        bench.add(5, BUTTON, name);
        bench.next();
        go(bench, 3);
        return bench.told(bench::tab);
    }

    /** Two tables of two ROWs with two TEXTs each: 1 (2: 3 4, 5: 6 7) and 8 (9: 10 11, 12: 13 14). */
    private static Bench twoTables() {
        Bench bench = new Bench();
        for (int table = 1; table < 15; table += 7) {
            bench.add(0, TABLE, "");
            for (int row = table + 1; row < table + 7; row += 3) {
                bench.add(table, ROW, "");
                bench.add(row, TEXT, "" + (char) ('a' + row));
                bench.add(row, TEXT, "" + (char) ('b' + row));
            }
        }
        return bench;
    }

    private static void rowHeads(Sentences sentences) {
        String from = "if it went from a child of a ROW to another child of a ROW of the same table,";
        sentences.term(TITLE, 27, from, checks -> {
            checks.same("a child of a ROW to another", "d", told(twoTables(), 3, "4"));
            checks.same("in another ROW", "f", told(twoTables(), 3, "5"));
            checks.same("from the ROW", "c", told(twoTables(), 2, "6"));
            checks.same("to the ROW", "row", told(twoTables(), 7, "3"));
            checks.same("to another table", "n button", toAnotherTable());
        });
        String less = "and the level of this child is not LESS:";
        sentences.term(TITLE, 27, less, checks -> {
            Bench bench = go(twoTables(), 4);
            bench.desk.setRule(7, LESS);
            checks.same("LESS", "g", bench.told(bench::down));
            bench.desk.setRule(4, MORE);
            bench.desk.setRule(7, NONE);
            bench.up();
            checks.same("PLAIN, from MORE", "f g", bench.told(bench::down));
            checks.same("MORE, from PLAIN", "c d 2 of 2", bench.told(bench::up));
            bench.desk.setRule(4, LESS);
            checks.same("PLAIN, from LESS", "f g", bench.told(bench::down));
        });
        String words = "the name of the child at the place 0 of its ROW, if this ROW is another one than before, "
                + "and that child is not the element itself;";
        sentences.term(TITLE, 27, words, checks -> {
            checks.same("another ROW", "f g", told(twoTables(), 4, "5"));
            checks.same("the same ROW", "d", told(twoTables(), 3, "4"));
            checks.same("the element itself", "f", told(twoTables(), 3, "5"));
            checks.same("back", "c d", told(twoTables(), 7, "2"));
        });
    }

    /** What is told when the cursor goes from an element by a command. */
    private static String told(Bench bench, int from, String points) {
        go(bench, from);
        return bench.told(() -> bench.command(points));
    }

    /** By TAB from the place 0 of a ROW to the place 1 of a ROW of another table. */
    private static String toAnotherTable() {
        Bench bench = new Bench();
        bench.add(0, TABLE, "");
        bench.add(1, ROW, "");
        bench.add(2, BUTTON, "m");
        bench.add(0, TABLE, "");
        bench.add(4, ROW, "");
        bench.add(5, TEXT, "h");
        bench.add(4, ROW, "");
        bench.add(7, TEXT, "i");
        bench.add(7, BUTTON, "n");
        bench.tab();
        return bench.told(bench::tab);
    }

    private static void columnHeads(Sentences sentences) {
        String words = "and the name of the child at its own place in the ROW at the place 0 of the table, "
                + "if its place is another one than before, and there is such a child that is not the element itself";
        sentences.term(TITLE, 27, words, checks -> {
            checks.same("another place", "d g", told(twoTables(), 6, "4"));
            checks.same("another place, back", "c f", told(twoTables(), 7, "1"));
            checks.same("the same place", "f g", told(twoTables(), 4, "5"));
            checks.same("the element itself", "d", told(twoTables(), 3, "4"));
            Bench bench = twoTables();
            bench.desk.remove(4);
            checks.same("there is no such child", "g", told(bench, 6, "4"));
            bench.desk.remove(3);
            checks.same("there is no child in that ROW", "f", told(bench, 7, "1"));
        });
        sentences.term(TITLE, 27, "(be these shown or not);", checks -> {
            Bench row = twoTables();
            row.desk.hide(2, true);
            checks.same("the top ROW is hidden", "d g", told(row, 6, "4"));
            Bench child = twoTables();
            child.desk.hide(4, true);
            checks.same("the top child is hidden", "d g", told(child, 6, "4"));
            Bench head = twoTables();
            head.desk.hide(6, true);
            checks.same("the head of the ROW is hidden", "f g", told(head, 4, "5"));
        });
    }

    private static void act(Sentences sentences) {
        sentences.term(TITLE, 27, "ACT: a BUTTON is pressed once more, and the answer is \"pressed\";", checks -> {
            Bench bench = new Bench();
            bench.add(0, BUTTON, "b");
            bench.next();
            checks.same("once", "pressed", bench.told(bench::act));
            checks.same("presses", 1, bench.desk.presses(1));
            checks.same("once more", "pressed", bench.told(bench::act));
            checks.same("presses", 2, bench.desk.presses(1));
        });
        sentences.term(TITLE, 27, "a CHECK is turned over, and the answer is \"on\" or \"off\";", checks -> {
            Bench bench = new Bench();
            bench.add(0, CHECK, "c");
            bench.next();
            checks.same("from off", "on", bench.told(bench::act));
            checks.same("it is on", true, bench.desk.isOn(1));
            checks.same("from on", "off", bench.told(bench::act));
            checks.same("it is off", false, bench.desk.isOn(1));
        });
        sentences.term(TITLE, 30, "in an EDIT typing begins, and the answer is \"type\";", checks -> {
            Bench bench = new Bench();
            bench.add(0, EDIT, "e");
            bench.next();
            checks.same("ahead of it", false, bench.desk.isTyping());
            checks.same("the answer", "type", bench.told(bench::act));
            checks.same("behind it", true, bench.desk.isTyping());
            checks.same("again", "type", bench.told(bench::act));
            checks.same("it goes on", true, bench.desk.isTyping());
        });
        sentences.term(TITLE, 29, "the focus comes to it.", checks -> {
            for (int kind = BUTTON; kind <= EDIT; kind++) {
                Bench bench = new Bench();
                bench.add(0, kind, "x");
                bench.add(0, BUTTON, "y");
                bench.tab();
                bench.tab();
                bench.previous();
                checks.same("ahead of it, kind " + kind, 2, bench.desk.focus());
                bench.act();
                checks.same("kind " + kind, 1, bench.desk.focus());
            }
        });
        sentences.term(TITLE, 27, "At other elements the answer is \"none\".", checks -> {
            for (int kind : new int[] {GROUP, TEXT, TABLE, LIVE}) {
                Bench bench = new Bench();
                bench.add(0, kind, "x");
                bench.add(0, BUTTON, "y");
                bench.tab();
                bench.previous();
                checks.same("kind " + kind, "none", bench.told(bench::act));
                checks.same("the focus stays, kind " + kind, 2, bench.desk.focus());
            }
            Bench bench = go(table(), 2);
            checks.same("ROW", "none", bench.told(bench::act));
            Bench screen = new Bench();
            checks.same("the screen", "none", screen.told(screen::act));
        });
    }

    private static void others(Sentences sentences) {
        sentences.term(TITLE, 27, "HUSH: as told at speech.", checks -> {
            Bench bench = three();
            bench.next();
            bench.hush();
            checks.same("no text is told by it", "0 0 0", bench.waiting());
            checks.same("dropped", 1, bench.desk.dropped());
        });
        sentences.term(TITLE, 31, "LEFT: the offset is 10 less, if it is above 0.", checks -> {
            Bench bench = longLine("A1A1A1A1A1A1");
            bench.goRight();
            bench.goRight();
            bench.goLeft();
            checks.same("from 20", 10, bench.desk.offset());
            bench.goLeft();
            checks.same("from 10", 0, bench.desk.offset());
            bench.goLeft();
            checks.same("from 0", 0, bench.desk.offset());
        });
        sentences.term(TITLE, 31, "RIGHT: it is 10 more, if that is below the length of the line.", checks -> {
            rightAt(checks, "", 0);
            rightAt(checks, "abcdefghi", 0);
            rightAt(checks, "abcdefghij", 0);
            rightAt(checks, "abcdefghijk", 10);
            rightAt(checks, "A1A1A1A1A1", 10);
            rightAt(checks, "A1A1A1A1A1k", 20);
            rightAt(checks, "A1A1A1A1A1A1", 20);
        });
        sentences.term(TITLE, 27, "AGAIN: the answer is the words of the element at the cursor.", checks -> {
            Bench bench = longLine("x");
            checks.same("the words", "x", bench.told(bench::again));
            bench.rename(1, "y");
            checks.same("as they are now", "y", bench.told(bench::again));
            bench.rename(1, "");
            bench.again();
            checks.same("empty ones do not come", "0 0 0", bench.waiting());
            Bench table = go(table(), 6);
            checks.same("without heads", "c button", table.told(table::again));
        });
    }

    private static Bench longLine(String name) {
        Bench bench = new Bench();
        bench.add(0, TEXT, name);
        bench.next();
        return bench;
    }

    private static void rightAt(Checks checks, String name, int due) {
        Bench bench = longLine(name);
        for (int i = 0; i < 4; i++) {
            bench.goRight();
        }
        checks.same("the farthest offset of a line of " + bench.desk.lineLength(), due, bench.desk.offset());
        checks.same("nothing is told", name.isEmpty() ? 0 : 1, bench.desk.waiting(ANSWER));
    }

    private static void letters(Sentences sentences) {
        String words = "Without the space, and without typing, the points of a letter with which the word of some kind "
                + "begins let the cursor go to the next element of that kind behind it in the reading order;";
        sentences.term(TITLE, 27, words, checks -> {
            Bench bench = new Bench();
            bench.add(0, GROUP, "");
            bench.add(1, BUTTON, "");
            bench.add(1, CHECK, "");
            bench.add(1, EDIT, "");
            bench.add(0, TABLE, "");
            bench.add(5, ROW, "");
            bench.add(0, LIVE, "");
            bench.add(0, BUTTON, "");
            checks.same("g", 1, bench.points("1245"));
            checks.same("b", 2, bench.points("12"));
            checks.same("c", 3, bench.points("14"));
            checks.same("e", 4, bench.points("15"));
            checks.same("t", 5, bench.points("2345"));
            checks.same("r", 6, bench.points("1235"));
            checks.same("l", 7, bench.points("123"));
            checks.same("b: the next one", 8, bench.points("12"));
            checks.same("the focus does not go", NONE, bench.desk.focus());
        });
        sentences.term(TITLE, 27, "if there is none, the answer is \"none\".", checks -> {
            Bench bench = new Bench();
            bench.add(0, BUTTON, "a");
            bench.add(0, TEXT, "t");
            bench.add(0, BUTTON, "b");
            bench.desk.hide(3, true);
            checks.same("the one behind", "a button", bench.told(() -> bench.points("12")));
            checks.same("the next one is hidden, and none begins anew", "none", bench.told(() -> bench.points("12")));
            checks.same("it stays", 1, bench.desk.cursor());
            checks.same("no GROUP behind it: the screen is ahead", "none", bench.told(() -> bench.points("1245")));
            checks.same("t is of TABLE, not of TEXT", "none", bench.told(() -> bench.points("2345")));
            bench.desk.hide(3, false);
            checks.same("shown", "b button", bench.told(() -> bench.points("12")));
        });
        sentences.term(TITLE, 27, "All other such chords, and the space alone, do nothing.", checks -> {
            Set<Integer> own = Set.of(27, 3, 9, 17, 30, 23, 7);
            for (int from = 1; from <= 256; from += 128) {
                Bench bench = three();
                bench.add(0, EDIT, "e");
                bench.next();
                for (int keys = from; keys < from + 128 && keys <= 256; keys++) {
                    if (!own.contains(keys)) {
                        bench.desk.chord(keys);
                    }
                }
                checks.same("cursor", 1, bench.desk.cursor());
                checks.same("typing", false, bench.desk.isTyping());
                checks.same("content", "", bench.content(3));
                checks.same("what was told waits still", "a", bench.listen(50));
                checks.same("dropped", 0, bench.desk.dropped());
            }
            Bench bench = three();
            bench.space();
            checks.same("the space alone", "0 0 0", bench.waiting());
        });
    }
}
