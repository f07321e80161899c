/** The sentences of typing, under "Keys". */
final class TypingSentences extends Constants {
    private static final String TITLE = "Keys";
    private static final int EDIT_AT = 1;

    private TypingSentences() {
    }

    static void all(Sentences sentences) {
        begins(sentences);
        signs(sentences);
        digits(sentences);
        letters(sentences);
        signsThatType(sentences);
        answers(sentences);
        full(sentences);
        takesBack(sentences);
        ends(sentences);
        otherChords(sentences);
    }

    /** An EDIT in which one types. */
    private static Bench typing() {
        Bench bench = new Bench();
        bench.add(0, EDIT, "e");
        bench.next();
        bench.act();
        return bench;
    }

    /** Types by chords of points, 0 for the space alone, and tells the content. */
    private static String typed(String chords) {
        Bench bench = typing();
        type(bench, chords);
        return bench.content(EDIT_AT);
    }

    private static void type(Bench bench, String chords) {
        for (String points : chords.split(" ")) {
            if (points.equals("0")) {
                bench.space();
            } else {
                bench.points(points);
            }
        }
    }

    private static void begins(Sentences sentences) {
        sentences.term(TITLE, 27, "Typing. When it begins, no capital is told, and numbers are off.", checks -> {
            checks.same("the first time", "a", typed("1"));
            Bench capital = typing();
            type(capital, "6 8");
            capital.act();
            capital.points("1");
            checks.same("when a capital was told before", "a", capital.content(EDIT_AT));
            Bench number = typing();
            type(number, "3456 8");
            number.act();
            number.points("1");
            checks.same("when numbers were on before", "a", number.content(EDIT_AT));
            Bench again = typing();
            type(again, "3456 6");
            again.act();
            type(again, "1 1");
            checks.same("when it begins again by ACT", "aa", again.content(EDIT_AT));
        });
    }

    private static void signs(Sentences sentences) {
        String words = "The sign capital tells a capital, the sign number puts numbers on, the sign letter puts them off.";
        sentences.term(TITLE, 27, words, checks -> {
            checks.same("capital", "A", typed("6 1"));
            checks.same("capital told twice", "Ab", typed("6 6 1 12"));
            checks.same("number", "1", typed("3456 1"));
            checks.same("number twice", "1", typed("3456 3456 1"));
            checks.same("letter", "a", typed("3456 56 1"));
            checks.same("letter, when numbers are off", "a", typed("56 1"));
            checks.same("letter, and number behind it", "1", typed("56 3456 1"));
            checks.same("letter leaves the capital told", "A", typed("6 56 1"));
            Bench bench = typing();
            bench.desk.tick(50);
            type(bench, "6 3456 56");
            checks.same("nothing is told", "0 0 0", bench.waiting());
            checks.same("nothing is typed", 0, bench.desk.contentLength(EDIT_AT));
        });
    }

    private static void digits(Sentences sentences) {
        String words = "The points of a letter from a to j, with numbers on and no capital told, type the digit that is "
                + "written so;";
        sentences.term(TITLE, 27, words, checks -> {
            checks.same("a to j", "1234567890", typed("3456 1 12 14 145 15 124 1245 125 24 245"));
            checks.same("j, the last one", "0", typed("3456 245"));
            checks.same("k, the first one that does not", "k", typed("3456 13"));
            checks.same("numbers off", "aj", typed("1 245"));
            checks.same("a capital told", "A", typed("3456 6 1"));
            checks.same("a capital told ahead of numbers", "A", typed("6 3456 1"));
            checks.same("numbers stay on behind a digit", "112", typed("3456 1 1 12"));
        });
    }

    private static void letters(Sentences sentences) {
        String words = "those of any letter otherwise type the letter, as a capital if one was told, and none is told any "
                + "more, and numbers are off.";
        sentences.term(TITLE, 27, words, checks -> {
            String[] points = {"1", "12", "14", "145", "15", "124", "1245", "125", "24", "245", "13", "123", "134",
                "1345", "135", "1234", "12345", "1235", "234", "2345", "136", "1236", "2456", "1346", "13456", "1356"};
            for (int i = 0; i < 26; i++) {
                checks.same("small", "" + (char) ('a' + i), typed(points[i]));
                checks.same("capital", "" + (char) ('A' + i), typed("6 " + points[i]));
                checks.same("with numbers on", i < 10 ? "" + (i + 1) % 10 : "" + (char) ('a' + i),
                        typed("3456 " + points[i]));
            }
            checks.same("none is told any more", "Aa", typed("6 1 1"));
            checks.same("numbers are off behind k", "ka", typed("3456 13 1"));
            checks.same("numbers are off behind a capital", "Aa", typed("3456 6 1 1"));
            checks.same("a capital k, numbers on", "Ka", typed("3456 6 13 1"));
        });
    }

    private static void signsThatType(Sentences sentences) {
        sentences.term(TITLE, 27, "The signs of full stop, comma, question mark and hyphen type these,", checks -> {
            checks.same("all four", ".,?-", typed("256 2 236 36"));
            checks.same("with numbers on, which stay on", "1.2,3?4-5", typed("3456 1 256 12 2 14 236 145 36 15"));
        });
        sentences.term(TITLE, 27, "and the space alone types a space, by which numbers are off;", checks -> {
            checks.same("a space", " ", typed("0"));
            checks.same("numbers are off", "1 a", typed("3456 1 0 1"));
            checks.same("numbers put on again", "1 1", typed("3456 1 0 3456 1"));
        });
        sentences.term(TITLE, 27, "a capital that was told stays so with all of them.", checks -> {
            checks.same("full stop", ".A", typed("6 256 1"));
            checks.same("comma", ",A", typed("6 2 1"));
            checks.same("question mark", "?A", typed("6 236 1"));
            checks.same("hyphen", "-A", typed("6 36 1"));
            checks.same("space", " A", typed("6 0 1"));
            checks.same("two of them", " -Aa", typed("6 0 36 1 1"));
        });
    }

    private static void answers(Sentences sentences) {
        String words = "A typed character comes to the end of the content, and the answer is that character, or \"space\" "
                + "for a space;";
        sentences.term(TITLE, 27, words, checks -> {
            Bench bench = typing();
            checks.same("a letter", "a", bench.told(() -> bench.points("1")));
            checks.same("a sign", "-", bench.told(() -> bench.points("36")));
            checks.same("a space", "space", bench.told(bench::space));
            bench.points("6");
            checks.same("a capital", "Z", bench.told(() -> bench.points("1356")));
            bench.points("3456");
            checks.same("a digit", "0", bench.told(() -> bench.points("245")));
            checks.same("each one at the end", "a- Z0", bench.content(EDIT_AT));
            checks.same("its priority", "0 0 0", bench.waiting());
            bench.points("1");
            checks.same("its priority", "0 1 0", bench.waiting());
        });
    }

    private static Bench typed(int count) {
        Bench bench = typing();
        for (int i = 0; i < count; i++) {
            bench.points("1");
        }
        return bench;
    }

    private static void full(Sentences sentences) {
        String words = "if the content has 12 characters already, nothing is done, but the answer is \"full\".";
        sentences.term(TITLE, 27, words, checks -> {
            Bench bench = typed(11);
            checks.same("the twelfth", "b", bench.told(() -> bench.points("12")));
            checks.same("the thirteenth", "full", bench.told(() -> bench.points("12")));
            checks.same("a sign too many", "full", bench.told(() -> bench.points("256")));
            checks.same("a space too many", "full", bench.told(bench::space));
            checks.same("nothing is done", "aaaaaaaaaaab", bench.content(EDIT_AT));
            checks.same("typing goes on", true, bench.desk.isTyping());
            bench.points("7");
            checks.same("when one was taken away", "c", bench.told(() -> bench.points("14")));
        });
        sentences.term(TITLE, 27, words, checks -> {
            Bench capital = typed(12);
            type(capital, "6 1 7 1");
            checks.same("a capital that was told stays so", "aaaaaaaaaaaA", capital.content(EDIT_AT));
            Bench numbers = typed(12);
            type(numbers, "3456 13 0 7 1");
            checks.same("numbers that were on stay so", "aaaaaaaaaaa1", numbers.content(EDIT_AT));
            Bench quiet = typed(12);
            quiet.desk.tick(50);
            type(quiet, "6 3456 56 4");
            checks.same("chords that type nothing do not tell it", "0 0 0", quiet.waiting());
        });
    }

    private static void takesBack(Sentences sentences) {
        String words = "The point 7 alone takes the last character of the content away, and the answer is as for typing it,";
        sentences.term(TITLE, 27, words, checks -> {
            Bench bench = typing();
            type(bench, "1 0 6 12");
            checks.same("a capital", "B", bench.told(() -> bench.points("7")));
            checks.same("what is left", "a ", bench.content(EDIT_AT));
            checks.same("a space", "space", bench.told(() -> bench.points("7")));
            checks.same("what is left", "a", bench.content(EDIT_AT));
            checks.same("the last one", "a", bench.told(() -> bench.points("7")));
            checks.same("what is left", "", bench.content(EDIT_AT));
            Bench full = typed(12);
            checks.same("of twelve", "a", full.told(() -> full.points("7")));
            checks.same("eleven are left", 11, full.desk.contentLength(EDIT_AT));
            type(full, "17 78 67");
            checks.same("not the point 7 with others", 11, full.desk.contentLength(EDIT_AT));
        });
        sentences.term(TITLE, 27, "or \"none\" if there is none;", checks -> {
            Bench bench = typing();
            checks.same("an empty content", "none", bench.told(() -> bench.points("7")));
            bench.points("1");
            checks.same("of one", "a", bench.told(() -> bench.points("7")));
            checks.same("empty again", "none", bench.told(() -> bench.points("7")));
            checks.same("typing goes on", true, bench.desk.isTyping());
        });
    }

    private static void ends(Sentences sentences) {
        String words = "the point 8 alone ends typing, and the answer is the words of the EDIT.";
        sentences.term(TITLE, 30, words, checks -> {
            Bench bench = typing();
            checks.same("without a content", "e edit", bench.told(() -> bench.points("8")));
            checks.same("typing", false, bench.desk.isTyping());
            checks.same("the focus stays", EDIT_AT, bench.desk.focus());
            checks.same("the cursor stays", EDIT_AT, bench.desk.cursor());
            bench.desk.tick(50);
            bench.points("8");
            checks.same("it does nothing then", "0 0 0", bench.waiting());
            bench.act();
            type(bench, "1 12 78");
            checks.same("not with other points", true, bench.desk.isTyping());
            checks.same("with a content", "e edit ab", bench.told(() -> bench.points("8")));
        });
    }

    private static void otherChords(Sentences sentences) {
        sentences.term(TITLE, 27, "All other chords without the space do nothing.", checks -> {
            String own = " 1 12 14 145 15 124 1245 125 24 245 13 123 134 1345 135 1234 12345 1235 234 2345 136 1236 2456"
                    + " 1346 13456 1356 6 3456 56 256 2 236 36 7 8 ";
            Bench bench = typing();
            type(bench, "1 6");
            bench.desk.tick(50);
            int others = 0;
            for (int keys = 1; keys < 256; keys++) {
                if (!own.contains(" " + Bench.points(keys) + " ")) {
                    bench.desk.chord(keys);
                    others++;
                }
            }
            checks.same("how many they are", 255 - 26 - 3 - 4 - 2, others);
            checks.same("content", "a", bench.content(EDIT_AT));
            checks.same("typing", true, bench.desk.isTyping());
            checks.same("nothing is told", "0 0 0", bench.waiting());
            bench.points("1");
            checks.same("the capital stays told", "aA", bench.content(EDIT_AT));
        });
    }
}
