/** The sentences of "Regions". */
final class RegionSentences extends Constants {
    private static final String TITLE = "Regions";

    private RegionSentences() {
    }

    static void all(Sentences sentences) {
        nearest(sentences);
        manners(sentences);
        calls(sentences);
        shown(sentences);
        texts(sentences);
        aheadOfLost(sentences);
        loud(sentences);
        polite(sentences);
        withATick(sentences);
        swallowed(sentences);
        constants(sentences);
    }

    /** A LIVE 1 of this manner, with a CHECK 2 named c; nothing waits, and it told nothing but that. */
    private static Bench region(int manner) {
        Bench bench = new Bench();
        bench.add(0, LIVE, "l");
        bench.desk.setManner(1, QUIET);
        bench.add(1, CHECK, "c");
        bench.desk.setManner(1, manner);
        return bench;
    }

    private static void nearest(Sentences sentences) {
        sentences.term(TITLE, 41, "The region of an element is the nearest LIVE above it, if there is one.", checks -> {
            Bench bench = new Bench();
            bench.add(0, LIVE, "outer");
            bench.desk.setManner(1, LOUD);
            bench.add(1, LIVE, "");
            checks.same("a LIVE below a LIVE tells the one above it", "0 0 1", bench.waiting());
            bench.desk.tick(50);
            bench.add(2, TEXT, "x");
            checks.same("the nearest one, a POLITE", "1 0 0", bench.waiting());
            bench.add(2, GROUP, "");
            bench.add(4, GROUP, "");
            bench.desk.tick(50);
            bench.desk.setManner(2, LOUD);
            bench.add(5, TEXT, "deep");
            checks.same("through GROUPs", "deep", bench.listen(50));
        });
        sentences.term(TITLE, 41, "The region of an element is the nearest LIVE above it, if there is one.", checks -> {
            Bench bench = new Bench();
            bench.add(0, LIVE, "");
            bench.desk.setManner(1, LOUD);
            bench.add(0, TEXT, "beside");
            checks.same("beside a LIVE there is none", "0 0 0", bench.waiting());
            bench.rename(1, "itself");
            bench.desk.hide(1, true);
            bench.desk.hide(1, false);
            checks.same("a LIVE is not its own", "0 0 0", bench.waiting());
            bench.desk.remove(1);
            checks.same("nor when it is removed", "0 0 0", bench.waiting());
            Bench quiet = new Bench();
            quiet.add(0, LIVE, "");
            quiet.add(1, LIVE, "");
            quiet.desk.setManner(1, LOUD);
            quiet.desk.setManner(2, QUIET);
            quiet.add(2, TEXT, "x");
            checks.same("a nearest one that is QUIET tells nothing, nor does one above it", "1 0 0", quiet.waiting());
        });
    }

    private static void manners(Sentences sentences) {
        sentences.term(TITLE, 9, "A LIVE has a manner: QUIET, POLITE, as at first, or LOUD.", checks -> {
            BrailleDesk desk = new BrailleDesk();
            desk.add(0, 0, LIVE);
            checks.same("at first", POLITE, desk.setManner(1, QUIET));
            checks.same("QUIET", QUIET, desk.setManner(1, LOUD));
            checks.same("LOUD", LOUD, desk.setManner(1, POLITE));
            checks.argument("below QUIET", () -> desk.setManner(1, QUIET - 1));
            checks.argument("above LOUD", () -> desk.setManner(1, LOUD + 1));
            checks.same("as before", POLITE, desk.setManner(1, POLITE));
        });
    }

    private static String waiting(Bench bench, Runnable call) {
        call.run();
        return bench.waiting();
    }

    private static void calls(Sentences sentences) {
        String words = "A call by which an element is added, hidden, not hidden any more, removed, gets another name than it "
                + "had, or is on or off by set() and was not, tells its region something,";
        sentences.term(TITLE, 5, words, checks -> {
            Bench bench = region(LOUD);
            checks.same("added", "a button", bench.told(() -> bench.add(1, BUTTON, "a")));
            checks.same("hidden", "gone a", bench.told(() -> bench.desk.hide(3, true)));
            checks.same("hidden again", "", bench.told(() -> bench.desk.hide(3, true)));
            checks.same("not hidden any more", "a button", bench.told(() -> bench.desk.hide(3, false)));
            checks.same("not hidden, as before", "", bench.told(() -> bench.desk.hide(3, false)));
            checks.same("another name", "b button", bench.told(() -> bench.rename(3, "b")));
            checks.same("the same name", "", bench.told(() -> bench.rename(3, "b")));
            checks.same("none", "button", bench.told(() -> bench.rename(3, "")));
            checks.same("none again", "", bench.told(() -> bench.rename(3, "")));
            checks.same("removed", "gone button", bench.told(() -> bench.desk.remove(3)));
        });
        sentences.term(TITLE, 7, words, checks -> {
            Bench bench = region(LOUD);
            checks.same("off, and was", "", bench.told(() -> bench.desk.set(2, false)));
            checks.same("on, and was not", "c check on", bench.told(() -> bench.desk.set(2, true)));
            checks.same("on, and was", "", bench.told(() -> bench.desk.set(2, true)));
            checks.same("off, and was not", "c check off", bench.told(() -> bench.desk.set(2, false)));
            bench.tab();
            bench.desk.tick(50);
            bench.act();
            checks.same("by ACT, not by set", "0 1 0", bench.waiting());
            bench.hush();
            bench.desk.setRule(2, MORE);
            bench.desk.setRule(1, LESS);
            checks.same("by setRule", "0 0 0", bench.waiting());
        });
        sentences.term(TITLE, 6, "gets another name than it had,", checks -> {
            Bench bench = region(LOUD);
            checks.same("longer", "0 0 1", waiting(bench, () -> bench.rename(2, "cc")));
            checks.same("one character is another", "0 0 2", waiting(bench, () -> bench.rename(2, "cd")));
            checks.same("shorter", "0 0 3", waiting(bench, () -> bench.rename(2, "c")));
            checks.same("a capital", "0 0 4", waiting(bench, () -> bench.rename(2, "C")));
            checks.same("the same", "0 0 4", waiting(bench, () -> bench.rename(2, "C")));
        });
        sentences.term(TITLE, 9, "if that has another manner than QUIET,", checks -> {
            checks.same("QUIET", "0 0 0", set(QUIET));
            checks.same("POLITE", "1 0 0", set(POLITE));
            checks.same("LOUD", "0 0 1", set(LOUD));
        });
    }

    /** What waits when a CHECK of such a region was put on. */
    private static String set(int manner) {
        Bench bench = region(manner);
        bench.desk.set(2, true);
        return bench.waiting();
    }

    private static void shown(Sentences sentences) {
        String words = "and the element is shown behind the call, or, when it is hidden or removed, was shown ahead of it:";
        sentences.term(TITLE, 5, words, checks -> {
            Bench bench = region(LOUD);
            bench.add(1, GROUP, "g");
            bench.add(3, CHECK, "d");
            bench.desk.hide(3, true);
            bench.desk.tick(50);
            bench.desk.set(4, true);
            bench.rename(4, "e");
            bench.add(3, TEXT, "new");
            checks.same("below a hidden one: set, rename, add", "0 0 0", bench.waiting());
            bench.desk.hide(4, true);
            checks.same("hidden below a hidden one", "0 0 0", bench.waiting());
            bench.desk.hide(4, false);
            checks.same("not hidden any more below a hidden one", "0 0 0", bench.waiting());
            bench.desk.remove(4);
            checks.same("removed below a hidden one", "0 0 0", bench.waiting());
            bench.desk.remove(3);
            checks.same("removed while hidden", "0 0 0", bench.waiting());
        });
        sentences.term(TITLE, 5, words, checks -> {
            Bench bench = region(LOUD);
            bench.desk.hide(2, true);
            bench.desk.tick(50);
            checks.same("set while hidden", "0 0 0", waiting(bench, () -> bench.desk.set(2, true)));
            checks.same("renamed while hidden", "0 0 0", waiting(bench, () -> bench.rename(2, "d")));
            checks.same("shown behind the call", "d check on", bench.told(() -> bench.desk.hide(2, false)));
            checks.same("shown ahead of the call", "gone d", bench.told(() -> bench.desk.remove(2)));
            bench.desk.hide(1, true);
            bench.add(1, TEXT, "x");
            checks.same("in a region that is hidden", "0 0 0", bench.waiting());
        });
    }

    private static void texts(Sentences sentences) {
        sentences.term(TITLE, 5, "the words of the element as they are then;", checks -> {
            Bench bench = region(LOUD);
            bench.desk.setRule(1, MORE);
            checks.same("added", "d 2 of 2", bench.told(() -> bench.add(1, TEXT, "d")));
            checks.same("added ahead", "e 1 of 3", bench.told(() -> bench.addAt(1, 0, TEXT, "e")));
            checks.same("renamed", "f 1 of 3", bench.told(() -> bench.rename(4, "f")));
            checks.same("set", "c check on 2 of 3", bench.told(() -> bench.desk.set(2, true)));
            bench.desk.hide(4, true);
            checks.same("not hidden any more", "f 1 of 3", bench.told(() -> bench.desk.hide(4, false)));
            bench.desk.setRule(1, LESS);
            checks.same("by LESS", "c off", bench.told(() -> bench.desk.set(2, false)));
            checks.same("as they were then, not as they are when they are heard", "c on", bench.told(() -> {
                bench.desk.set(2, true);
                bench.desk.setRule(1, PLAIN);
            }));
        });
        String gone = "but when it is hidden or removed the parts \"gone\" and its name, or the word of its kind if the name "
                + "is empty.";
        sentences.term(TITLE, 4, gone, checks -> {
            Bench bench = region(LOUD);
            bench.desk.setRule(0, MORE);
            checks.same("hidden, with a name", "gone c", bench.told(() -> bench.desk.hide(2, true)));
            bench.desk.hide(2, false);
            bench.rename(2, "");
            checks.same("hidden, without a name", "gone check", bench.told(() -> bench.desk.hide(2, true)));
            bench.desk.hide(2, false);
            checks.same("removed, without a name", "gone check", bench.told(() -> bench.desk.remove(2)));
            bench.add(1, TEXT, "");
            checks.same("of a TEXT without a name", "gone", bench.told(() -> bench.desk.hide(3, true)));
            bench.add(1, TEXT, "abcdefghijkl");
            checks.same("of a long name", "gone abcdefghijkl", bench.told(() -> bench.desk.remove(4)));
        });
        sentences.term(TITLE, 4, gone, checks -> {
            Bench bench = region(LOUD);
            bench.add(1, GROUP, "g");
            bench.add(3, TEXT, "t");
            bench.desk.tick(50);
            checks.same("one with others below it: of it alone", "gone g", bench.told(() -> bench.desk.remove(3)));
        });
        sentences.term(TITLE, 3, "If that text is empty, nothing is told.", checks -> {
            Bench loud = region(LOUD);
            loud.add(1, TEXT, "");
            checks.same("a LOUD region", "0 0 0", loud.waiting());
            loud.desk.setRule(1, MORE);
            loud.add(1, TEXT, "");
            checks.same("one that is not empty", "3 of 3", loud.listen(50));
            Bench polite = region(POLITE);
            polite.add(1, TEXT, "");
            polite.add(1, TEXT, "a");
            checks.same("it is not the first NEWS of a POLITE one", "1 0 0", polite.waiting());
            polite.add(1, TEXT, "b");
            polite.add(1, TEXT, "");
            checks.same("it does not come in place of what is kept", 0, polite.desk.swallowed());
            checks.same("which comes", "ab", polite.listen(50));
        });
    }

    private static void aheadOfLost(Sentences sentences) {
        sentences.term(TITLE, 4, "What is told comes ahead of an ALERT for a lost cursor.", checks -> {
            Bench removed = region(LOUD);
            removed.tab();
            removed.hush();
            checks.same("removed", "gone clost l live", removed.told(() -> removed.desk.remove(2)));
            Bench hidden = region(LOUD);
            hidden.tab();
            hidden.hush();
            hidden.desk.hide(2, true);
            checks.same("hidden: both are ALERTs", "0 0 2", hidden.waiting());
            checks.same("hidden", "gone clost l live", hidden.listen(50));
            Bench polite = region(POLITE);
            polite.tab();
            polite.hush();
            polite.desk.hide(2, true);
            checks.same("a NEWS waits", "1 0 1", polite.waiting());
        });
    }

    private static void loud(Sentences sentences) {
        sentences.term(TITLE, 3, "A LOUD region lets it come as an ALERT at once.", checks -> {
            Bench bench = region(LOUD);
            for (int i = 1; i <= 5; i++) {
                bench.desk.set(2, i % 2 == 1);
                checks.same("each time", "0 0 " + i, bench.waiting());
            }
            checks.same("none is kept", 0, bench.desk.swallowed());
        });
    }

    /** A POLITE region that has told a NEWS at the time 0, and has kept a text since. */
    private static Bench keeping() {
        Bench bench = region(POLITE);
        bench.desk.set(2, true);
        bench.desk.set(2, false);
        return bench;
    }

    private static void polite(Sentences sentences) {
        sentences.term(TITLE, 3, "A POLITE one lets it come as a NEWS at once, if it never did so before,", checks -> {
            Bench bench = region(POLITE);
            bench.desk.set(2, true);
            checks.same("the first one", "1 0 0", bench.waiting());
            bench.desk.set(2, false);
            checks.same("the second one", "1 0 0", bench.waiting());
            Bench late = region(POLITE);
            late.desk.tick(3);
            late.desk.set(2, true);
            checks.same("the first one, at another time", "1 0 0", late.waiting());
            Bench loud = region(LOUD);
            loud.desk.set(2, true);
            loud.desk.setManner(1, POLITE);
            loud.desk.set(2, false);
            checks.same("an ALERT before is no NEWS", "1 0 1", loud.waiting());
            Bench other = region(POLITE);
            other.add(0, LIVE, "m");
            other.desk.set(2, true);
            other.add(3, TEXT, "x");
            checks.same("each region for itself", "2 0 0", other.waiting());
        });
        sentences.term(TITLE, 3, "or if it did so last 5 ticks ago or more;", checks -> {
            for (int ticks = 1; ticks <= 7; ticks++) {
                Bench bench = region(POLITE);
                bench.desk.setRule(2, LESS);
                bench.desk.set(2, true);
                bench.desk.tick(ticks);
                bench.hush();
                bench.desk.set(2, false);
                checks.same(ticks + " ticks ago", ticks >= 5 ? "1 0 0" : "0 0 0", bench.waiting());
            }
            Bench bench = keeping();
            bench.desk.tick(9);
            bench.hush();
            bench.desk.set(2, true);
            checks.same("what was kept came 4 ticks ago", "0 0 0", bench.waiting());
            bench.desk.tick(1);
            checks.same("5 ticks ago", NEWS, bench.desk.speaking());
        });
        sentences.term(TITLE, 3, "otherwise it keeps it, in place of what it kept, which is swallowed.", checks -> {
            Bench bench = keeping();
            checks.same("kept", "1 0 0", bench.waiting());
            checks.same("nothing was kept before", 0, bench.desk.swallowed());
            bench.rename(2, "d");
            checks.same("in place of that", 1, bench.desk.swallowed());
            bench.rename(2, "e");
            checks.same("in place of that", 2, bench.desk.swallowed());
            checks.same("swallowed is not dropped", 0, bench.desk.dropped());
            checks.same("the last one comes", "c check one check off", bench.listen(50));
        });
    }

    private static void withATick(Sentences sentences) {
        String words = "With a tick each region that keeps something, by rising numbers, lets it come as a NEWS, if it did so "
                + "last 5 ticks ago or more;";
        sentences.term(TITLE, 37, words, checks -> {
            Bench bench = keeping();
            bench.hush();
            bench.desk.tick(4);
            checks.same("with the fourth tick", NONE, bench.desk.speaking());
            bench.desk.tick(1);
            checks.same("with the fifth tick", NEWS, bench.desk.speaking());
            checks.same("its text", " check off", bench.listen(50));
            checks.same("once", 0, bench.desk.tick(50));
            checks.same("it is not swallowed", 0, bench.desk.swallowed());
        });
        sentences.term(TITLE, 37, "each region that keeps something, by rising numbers,", checks -> {
            Bench bench = new Bench();
            bench.add(0, LIVE, "");
            bench.addAt(0, 0, LIVE, "");
            bench.addAt(0, 0, LIVE, "");
            for (int region : new int[] {3, 1, 2}) {
                bench.add(region, TEXT, "x");
                bench.add(region, TEXT, "" + region);
            }
            checks.same("all told once", "3 0 0", bench.waiting());
            bench.desk.tick(4);
            bench.hush();
            checks.same("by numbers, not by places", "123", bench.listen(50));
        });
        sentences.term(TITLE, 37, "if it did so last 5 ticks ago or more;", checks -> {
            Bench bench = new Bench();
            bench.add(0, LIVE, "");
            bench.add(0, LIVE, "");
            bench.add(2, TEXT, "x");
            bench.add(2, TEXT, "2");
            bench.desk.tick(2);
            bench.add(1, TEXT, "y");
            bench.add(1, TEXT, "1");
            bench.hush();
            checks.same("five ticks behind each one's own NEWS: 3 and 5", "", bench.listen(2));
            checks.same("the region 2", "2", bench.listen(1));
            checks.same("none", "", bench.listen(1));
            checks.same("the region 1", "1", bench.listen(1));
        });
        String hidden = "if the region is not shown at that time, it is swallowed instead.";
        sentences.term(TITLE, 37, hidden, checks -> {
            Bench bench = keeping();
            bench.hush();
            bench.desk.hide(1, true);
            bench.desk.tick(4);
            checks.same("ahead of that time", 0, bench.desk.swallowed());
            bench.desk.tick(1);
            checks.same("at that time", 1, bench.desk.swallowed());
            checks.same("nothing comes", "0 0 0", bench.waiting());
            bench.desk.hide(1, false);
            bench.desk.set(2, true);
            checks.same("it has let no NEWS come by that", "1 0 0", bench.waiting());
            checks.same("what is heard", "c check on", bench.listen(50));
            checks.same("it is swallowed once", 1, bench.desk.swallowed());
        });
        sentences.term(TITLE, 37, hidden, checks -> {
            Bench shown = keeping();
            shown.hush();
            shown.desk.hide(1, true);
            shown.desk.tick(4);
            shown.desk.hide(1, false);
            checks.same("shown again at that time", 1, shown.desk.tick(1));
            checks.same("swallowed", 0, shown.desk.swallowed());
            Bench above = new Bench();
            above.add(0, GROUP, "");
            above.add(1, LIVE, "");
            above.add(2, TEXT, "a");
            above.add(2, TEXT, "b");
            above.desk.hide(1, true);
            above.desk.tick(5);
            checks.same("one above it is hidden", 1, above.desk.swallowed());
            Bench child = keeping();
            child.desk.hide(2, true);
            checks.same("what it kept, by what is told of its child", 1, child.desk.swallowed());
            child.desk.tick(5);
            checks.same("the region itself is shown", 1, child.desk.swallowed());
        });
    }

    private static void swallowed(Sentences sentences) {
        String manner = "When the manner of a region is set, what it keeps is swallowed;";
        sentences.term(TITLE, 45, manner, checks -> {
            for (int to = QUIET; to <= LOUD; to++) {
                Bench bench = keeping();
                bench.desk.setManner(1, to);
                checks.same("to " + to, 1, bench.desk.swallowed());
                bench.desk.setManner(1, to);
                checks.same("to " + to + " again: it keeps nothing", 1, bench.desk.swallowed());
                bench.hush();
                checks.same("nothing comes", 0, bench.desk.tick(50));
            }
            Bench other = keeping();
            other.add(0, LIVE, "");
            other.desk.setManner(3, LOUD);
            checks.same("that of another region", 0, other.desk.swallowed());
            Bench none = region(POLITE);
            none.desk.set(2, true);
            none.desk.setManner(1, LOUD);
            checks.same("a region that keeps nothing", 0, none.desk.swallowed());
        });
        sentences.term(TITLE, 45, "when the region is removed, too.", checks -> {
            Bench bench = keeping();
            bench.desk.remove(1);
            checks.same("itself", 1, bench.desk.swallowed());
            Bench above = new Bench();
            above.add(0, GROUP, "");
            for (int region = 2; region <= 8; region += 3) {
                above.add(1, LIVE, "");
                above.add(region, TEXT, "a");
                above.add(region, TEXT, "b");
            }
            above.desk.remove(1);
            checks.same("three, with the one above them", 3, above.desk.swallowed());
            Bench told = region(POLITE);
            told.desk.set(2, true);
            told.desk.remove(1);
            checks.same("one that keeps nothing", 0, told.desk.swallowed());
            checks.same("a NEWS that came stays", "1 0 0", told.waiting());
            Bench beside = keeping();
            beside.add(0, LIVE, "");
            beside.desk.remove(3);
            checks.same("another region", 0, beside.desk.swallowed());
        });
    }

    private static void constants(Sentences sentences) {
        sentences.term(TITLE, 1, "The constants: `NONE = -1`: None.", checks -> checks.same("NONE", -1, NONE));
        String kinds = "`GROUP = 0, TEXT = 1, BUTTON = 2, CHECK = 3, EDIT = 4, TABLE = 5, ROW = 6, LIVE = 7`: "
                + "Kinds of elements.";
        sentences.term(TITLE, 11, kinds, checks -> {
            int[] constants = {GROUP, TEXT, BUTTON, CHECK, EDIT, TABLE, ROW, LIVE};
            for (int i = 0; i < 8; i++) {
                checks.same("kind " + i, i, constants[i]);
            }
            BrailleDesk desk = new BrailleDesk();
            checks.argument("below the first one", () -> desk.add(0, 0, -1));
            checks.argument("above the last one", () -> desk.add(0, 0, 8));
            checks.same("the last one", 1, desk.add(0, 0, 7));
            checks.same("the first one", 2, desk.add(0, 0, 0));
        });
        sentences.term(TITLE, 8, "`LESS = 0, PLAIN = 1, MORE = 2`: Levels of rules.", checks -> {
            checks.same("LESS", 0, LESS);
            checks.same("PLAIN", 1, PLAIN);
            checks.same("MORE", 2, MORE);
        });
        sentences.term(TITLE, 9, "`QUIET = 0, POLITE = 1, LOUD = 2`: Manners of regions.", checks -> {
            checks.same("QUIET", 0, QUIET);
            checks.same("POLITE", 1, POLITE);
            checks.same("LOUD", 2, LOUD);
        });
        sentences.term(TITLE, 41, "`NEWS = 0, ANSWER = 1, ALERT = 2`: Priorities of texts.", checks -> {
            checks.same("NEWS", 0, NEWS);
            checks.same("ANSWER", 1, ANSWER);
            checks.same("ALERT", 2, ALERT);
        });
        sentences.asksNoTest(TITLE, "Ahead of the calls `draft`, `add`, `remove`, `hide`, `rename`, `set`, `setRule`, "
                + "`setManner`, `elements`, `kind`, `parent`, `children`, `childAt`, `nameLength`, `nameAt`, "
                + "`contentLength`, `contentAt`, `isOn`, `presses`, `isShown`, `level`, `reading`, `readingAt` "
                + "the interface says: ---- the tree.");
        sentences.asksNoTest(TITLE, "Ahead of the calls `press`, `release`, `chord`, `cursor`, `focus`, `isTyping` "
                + "the interface says: ---- keys.");
        sentences.asksNoTest(TITLE, "Ahead of the calls `offset`, `lineLength`, `pin`, `pinAnew` "
                + "the interface says: ---- pins.");
        sentences.asksNoTest(TITLE, "Ahead of the calls `wordsLength`, `wordsAt`, `tick`, `time`, `speaking`, `left`, "
                + "`waiting`, `heard`, `heardAt`, `dropped`, `swallowed` the interface says: ---- words and speech.");
    }
}
