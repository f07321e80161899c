/** The sentences of "Words". */
final class WordsSentences extends Constants {
    private static final String TITLE = "Words";
    private static final String FULL = "abcdefghijkl";

    private WordsSentences() {
    }

    static void all(Sentences sentences) {
        parts(sentences);
        names(sentences);
        wordOfKind(sentences);
        state(sentences);
        places(sentences);
        kinds(sentences);
    }

    private static Bench with(int kind, String name, int level) {
        Bench bench = new Bench();
        if (kind == ROW) {
            bench.desk.setRule(0, level);
            bench.add(bench.add(0, TABLE, "t"), ROW, name);
        } else {
            bench.add(0, kind, name);
            bench.desk.setRule(1, level);
        }
        return bench;
    }

    private static void parts(Sentences sentences) {
        sentences.term(TITLE, 35, "The words of an element that is shown are these parts,", checks -> {
            Bench bench = new Bench();
            int group = bench.add(0, GROUP, "g");
            int text = bench.add(group, TEXT, "abc");
            checks.same("shown", 3, bench.desk.wordsLength(text));
            bench.desk.hide(text, true);
            checks.state("hidden: length", () -> bench.desk.wordsLength(text));
            checks.state("hidden: character", () -> bench.desk.wordsAt(text, 0));
            bench.desk.hide(text, false);
            bench.desk.hide(group, true);
            checks.state("one above it hidden: length", () -> bench.desk.wordsLength(text));
            checks.state("one above it hidden: character", () -> bench.desk.wordsAt(text, 0));
            bench.desk.hide(group, false);
            checks.same("shown again", "abc", bench.words(text));
        });
        sentences.term(TITLE, 36, "those that are empty left out, with one space between any two:", checks -> {
            checks.same("all are there", "a check off 1 of 1", with(CHECK, "a", MORE).words(1));
            checks.same("no name", "check off 1 of 1", with(CHECK, "", MORE).words(1));
            checks.same("no name, no content", "edit 1 of 1", with(EDIT, "", MORE).words(1));
            checks.same("no word of the kind", "a 1 of 1", with(TEXT, "a", MORE).words(1));
            checks.same("only the last part", "1 of 1", with(TEXT, "", MORE).words(1));
            checks.same("only the first part", "a", with(TEXT, "a", PLAIN).words(1));
            checks.same("none", "", with(TEXT, "", PLAIN).words(1));
            checks.same("none: length", 0, with(TEXT, "", LESS).desk.wordsLength(1));
            checks.index("none: character", () -> with(TEXT, "", LESS).desk.wordsAt(1, 0));
        });
        sentences.term(TITLE, 36, "with one space between any two:", checks -> {
            checks.same("a name of a space is not empty", "  button", with(BUTTON, " ", PLAIN).words(1));
            checks.same("a space at its end stays", "a  off", with(CHECK, "a ", LESS).words(1));
            checks.same("a name of a space alone", " ", with(TEXT, " ", PLAIN).words(1));
        });
    }

    private static void names(Sentences sentences) {
        sentences.term(TITLE, 36, "its name;", checks -> {
            checks.same("of 0", "", with(TEXT, "", PLAIN).words(1));
            checks.same("of 1", "a", with(TEXT, "a", PLAIN).words(1));
            checks.same("of 12", FULL, with(TEXT, FULL, PLAIN).words(1));
            checks.same("of 12: length", 12, with(TEXT, FULL, PLAIN).desk.wordsLength(1));
            checks.index("of 12: behind its end", () -> with(TEXT, FULL, PLAIN).desk.wordsAt(1, 12));
            checks.same("high codes", "\uD834\uDD00\uD834\uDDFF", with(TEXT, "\uD834\uDD00\uD834\uDDFF", LESS).words(1));
        });
    }

    private static void wordOfKind(Sentences sentences) {
        String words = "the word of its kind, if its level is not LESS or its name is empty;";
        sentences.term(TITLE, 36, words, checks -> {
            checks.same("LESS, a name", "a", with(BUTTON, "a", LESS).words(1));
            checks.same("LESS, no name", "button", with(BUTTON, "", LESS).words(1));
            checks.same("PLAIN, a name", "a button", with(BUTTON, "a", PLAIN).words(1));
            checks.same("PLAIN, no name", "button", with(BUTTON, "", PLAIN).words(1));
            checks.same("MORE, a name", "a button 1 of 1", with(BUTTON, "a", MORE).words(1));
            checks.same("MORE, no name", "button 1 of 1", with(BUTTON, "", MORE).words(1));
            Bench bench = new Bench();
            bench.desk.setRule(0, LESS);
            checks.same("the screen by LESS, without a name", "group", bench.words(0));
            checks.same("the level of the parent", "b", bench.words(bench.add(0, BUTTON, "b")));
        });
    }

    private static void state(Sentences sentences) {
        sentences.term(TITLE, 36, "for a CHECK \"on\" or \"off\";", checks -> {
            Bench bench = with(CHECK, "a", LESS);
            checks.same("off", "a off", bench.words(1));
            bench.desk.set(1, true);
            checks.same("on", "a on", bench.words(1));
            bench.desk.setRule(1, PLAIN);
            checks.same("behind the word of the kind", "a check on", bench.words(1));
            checks.same("no other kind has it", "a button", with(BUTTON, "a", PLAIN).words(1));
        });
        sentences.term(TITLE, 36, "for an EDIT its content;", checks -> {
            Bench bench = with(EDIT, "n", MORE);
            checks.same("of 0", "n edit 1 of 1", bench.words(1));
            bench.tab();
            bench.act();
            bench.points("1");
            checks.same("of 1", "n edit a 1 of 1", bench.words(1));
            for (int i = 0; i < 11; i++) {
                bench.points("12");
            }
            checks.same("of 12", "n edit abbbbbbbbbbb 1 of 1", bench.words(1));
            bench.desk.setRule(1, LESS);
            checks.same("by LESS", "n abbbbbbbbbbb", bench.words(1));
        });
        sentences.term(TITLE, 36, "for an EDIT its content;", checks -> {
            Bench bench = with(EDIT, "", PLAIN);
            bench.tab();
            bench.act();
            bench.space();
            checks.same("a content of a space is not empty", "edit  ", bench.words(1));
            bench.points("7");
            checks.same("empty again", "edit", bench.words(1));
        });
    }

    private static void places(Sentences sentences) {
        sentences.term(TITLE, 36, "if its level is MORE, and it is not the screen, \"p of n\",", checks -> {
            checks.same("MORE", "a 1 of 1", with(TEXT, "a", MORE).words(1));
            checks.same("PLAIN", "a", with(TEXT, "a", PLAIN).words(1));
            checks.same("LESS", "a", with(TEXT, "a", LESS).words(1));
            Bench bench = new Bench();
            bench.desk.setRule(0, MORE);
            checks.same("the screen", "group", bench.words(0));
            bench.add(0, TEXT, "a");
            checks.same("below it", "a 1 of 1", bench.words(1));
        });
        String words = "with the number p that it has among the children of its parent that are shown, "
                + "counted from 1 on, and how many these are, n.";
        sentences.term(TITLE, 36, words, checks -> {
            Bench bench = new Bench();
            bench.desk.setRule(0, MORE);
            for (int i = 0; i < 9; i++) {
                bench.add(0, TEXT, "");
            }
            checks.same("first of nine", "1 of 9", bench.words(1));
            checks.same("last of nine", "9 of 9", bench.words(9));
            bench.add(0, TEXT, "");
            checks.same("first of ten", "1 of 10", bench.words(1));
            checks.same("last of ten", "10 of 10", bench.words(10));
            bench.desk.hide(3, true);
            checks.same("ahead of a hidden one", "2 of 9", bench.words(2));
            checks.same("behind a hidden one", "3 of 9", bench.words(4));
            checks.same("the last one then", "9 of 9", bench.words(10));
            bench.desk.remove(1);
            checks.same("behind one that is gone", "1 of 8", bench.words(2));
        });
        sentences.term(TITLE, 36, words, checks -> {
            Bench bench = new Bench();
            bench.desk.setRule(0, MORE);
            bench.add(0, GROUP, "");
            bench.add(1, TEXT, "x");
            bench.add(1, TEXT, "y");
            bench.add(0, TEXT, "z");
            checks.same("of its own parent", "y 2 of 2", bench.words(3));
            checks.same("of the screen", "z 2 of 2", bench.words(4));
            bench.add(1, TEXT, "late");
            checks.same("one more", "y 2 of 3", bench.words(3));
        });
    }

    private static void kinds(Sentences sentences) {
        String words = "The words of the kinds are \"group\", \"button\", \"check\", \"edit\", \"table\", \"row\" and \"live\";";
        sentences.term(TITLE, 36, words, checks -> {
            checks.same("GROUP", "group", with(GROUP, "", PLAIN).words(1));
            checks.same("BUTTON", "button", with(BUTTON, "", PLAIN).words(1));
            checks.same("CHECK", "check off", with(CHECK, "", PLAIN).words(1));
            checks.same("EDIT", "edit", with(EDIT, "", PLAIN).words(1));
            checks.same("TABLE", "table", with(TABLE, "", PLAIN).words(1));
            checks.same("ROW", "row", with(ROW, "", PLAIN).words(2));
            checks.same("LIVE", "live", with(LIVE, "", PLAIN).words(1));
        });
        sentences.term(TITLE, 36, "TEXT has none, it is empty.", checks -> {
            checks.same("without a name", "", with(TEXT, "", PLAIN).words(1));
            checks.same("with a name", "text", with(TEXT, "text", PLAIN).words(1));
        });
    }
}
