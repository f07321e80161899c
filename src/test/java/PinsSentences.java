/** The sentences of "Pins". */
final class PinsSentences extends Constants {
    private static final String TITLE = "Pins";
    private static final String[] LETTERS = {
        "1", "12", "14", "145", "15", "124", "1245", "125", "24", "245", "13", "123", "134",
        "1345", "135", "1234", "12345", "1235", "234", "2345", "136", "1236", "2456", "1346", "13456", "1356"
    };

    private PinsSentences() {
    }

    static void all(Sentences sentences) {
        cells(sentences);
        letters(sentences);
        smallLetters(sentences);
        capitals(sentences);
        digits(sentences);
        otherCharacters(sentences);
        lines(sentences);
        tenPins(sentences);
        offsetAtFirst(sentences);
        offsetBehindEachCall(sentences);
    }

    /** What the pins show of a TEXT with this name, as far as its line goes. */
    private static String written(String name) {
        Bench bench = new Bench();
        bench.add(0, TEXT, name);
        bench.next();
        return line(bench);
    }

    private static String line(Bench bench) {
        StringBuilder cells = new StringBuilder();
        String pins = bench.pins();
        for (int i = 0; i < bench.desk.lineLength() && i < 10; i++) {
            cells.append(i > 0 ? " " : "").append(pins.split(" ")[i]);
        }
        return cells.toString();
    }

    private static Bench at(int kind, String name, int level) {
        Bench bench = new Bench();
        bench.add(0, kind, name);
        bench.desk.setRule(1, level);
        bench.next();
        return bench;
    }

    private static void cells(Sentences sentences) {
        String words = "A cell is a set of the points 1 to 8, told as a number in which the point k counts "
                + "2 to the power of k - 1.";
        sentences.term(TITLE, 33, words, checks -> {
            Bench bench = at(TEXT, "a,@-", PLAIN);
            checks.same("the point 1", 1, bench.desk.pin(0));
            checks.same("the point 2", 2, bench.desk.pin(1));
            checks.same("the points 1 to 6", 63, bench.desk.pin(2));
            checks.same("the points 3 and 6", 36, bench.desk.pin(3));
            checks.same("no point", 0, bench.desk.pin(4));
            checks.same("the points 1 and 2, and 7 and 8", 195, at(BUTTON, "", PLAIN).desk.pin(0));
            checks.same("the point 6", 32, at(TEXT, "A", PLAIN).desk.pin(0));
        });
    }

    private static void letters(Sentences sentences) {
        String words = "The letters are, by their points: a 1, b 12, c 14, d 145, e 15, f 124, g 1245, h 125, i 24, "
                + "j 245, k 13, l 123, m 134, n 1345, o 135, p 1234, q 12345, r 1235, s 234, t 2345, u 136, v 1236, "
                + "w 2456, x 1346, y 13456, z 1356.";
        sentences.term(TITLE, 33, words, checks -> {
            for (int i = 0; i < 26; i++) {
                String letter = "" + (char) ('a' + i);
                checks.same(letter, LETTERS[i], written(letter));
            }
        });
        String signs = "Further signs: capital 6, number 3456, letter 56, full stop 256, comma 2, question mark 236, "
                + "hyphen 36.";
        sentences.term(TITLE, 33, signs, checks -> {
            checks.same("capital", "6 1", written("A"));
            checks.same("number, letter", "3456 1 56 1", written("1a"));
            checks.same("full stop", "256", written("."));
            checks.same("comma", "2", written(","));
            checks.same("question mark", "236", written("?"));
            checks.same("hyphen", "36", written("-"));
        });
        sentences.term(TITLE, 32, "Writing makes cells of characters, one behind the other.", checks -> {
            checks.same("one", "1", written("a"));
            checks.same("three", "1 12 14", written("abc"));
            checks.same("none: length", 0, at(TEXT, "", PLAIN).desk.lineLength());
            checks.same("twelve: length", 12, at(TEXT, "abcdefghijkl", PLAIN).desk.lineLength());
        });
    }

    private static void smallLetters(Sentences sentences) {
        String words = "A small letter makes its points, and ahead of them the sign letter, if it is one of a to j and "
                + "comes right behind a digit.";
        sentences.term(TITLE, 33, words, checks -> {
            checks.same("a behind a digit", "3456 1 56 1", written("1a"));
            checks.same("j behind a digit", "3456 1 56 245", written("1j"));
            checks.same("k behind a digit", "3456 1 13", written("1k"));
            checks.same("z behind a digit", "3456 1 1356", written("1z"));
            checks.same("behind 0", "3456 245 56 1", written("0a"));
            checks.same("behind 9", "3456 24 56 1", written("9a"));
            checks.same("behind the character ahead of 0", "123456 1", written("/a"));
            checks.same("behind the character behind 9", "123456 1", written(":a"));
            checks.same("the first character", "1", written("a"));
            checks.same("a space between", "3456 1 0 1", written("1 a"));
            checks.same("a letter between", "3456 1 13 1", written("1ka"));
            checks.same("the second one behind a digit", "3456 1 56 1 12", written("1ab"));
            checks.same("a letter ahead of the digit", "1 3456 1 56 12", written("a1b"));
        });
    }

    private static void capitals(Sentences sentences) {
        sentences.term(TITLE, 33, "A capital makes the sign capital and the points of the small letter;", checks -> {
            for (int i = 0; i < 26; i++) {
                String capital = "" + (char) ('A' + i);
                checks.same(capital, "6 " + LETTERS[i], written(capital));
            }
            checks.same("right behind a digit there is no sign letter", "3456 1 6 1", written("1A"));
        });
        String row = "but in a row of two or more letters, small ones and capitals, as long as it can be, "
                + "all of which are capitals, the first one makes the sign capital twice and its points, "
                + "and each other one its points alone.";
        sentences.term(TITLE, 33, row, checks -> {
            checks.same("a row of one", "6 1", written("A"));
            checks.same("a row of two", "6 6 1 12", written("AB"));
            checks.same("a row of three", "6 6 1 12 14", written("ABC"));
            checks.same("a row to the last letter", "6 6 1 1356", written("AZ"));
            checks.same("a row from the last letter", "6 6 1356 1", written("ZA"));
            checks.same("twelve: length", 14, at(TEXT, "ABCDEFGHIJKL", PLAIN).desk.lineLength());
            checks.same("a small one at its end", "6 1 6 12 14", written("ABc"));
            checks.same("a small one at its beginning", "1 6 12 6 14", written("aBC"));
            checks.same("a small one in the midst", "6 1 12 6 14", written("AbC"));
            checks.same("the first small one", "6 1 1", written("Aa"));
            checks.same("the last small one", "6 1 1356", written("Az"));
            checks.same("the first small one behind two", "6 1 6 12 1", written("ABa"));
            checks.same("the last small one behind two", "6 1 6 12 1356", written("ABz"));
        });
        sentences.term(TITLE, 33, row, checks -> {
            checks.same("two rows by a space", "6 6 1 12 0 6 14", written("AB C"));
            checks.same("a small one in another row", "6 6 1 12 0 14", written("AB c"));
            checks.same("a digit ends it", "6 1 3456 1 6 12", written("A1B"));
            checks.same("a row behind a digit", "3456 1 6 6 1 12", written("1AB"));
            checks.same("what is ahead of A", "123456 6 1", written("@A"));
            checks.same("what is behind Z", "6 1356 123456", written("Z["));
            checks.same("what is ahead of a", "6 1 123456", written("A`"));
            checks.same("what is behind z", "6 1 123456 6 12", written("A{B"));
            checks.same("a row behind what is ahead of A", "123456 6 6 1 12", written("@AB"));
            checks.same("a row ahead of what is behind Z", "6 6 1 12 123456", written("AB["));
            checks.same("a row behind what is ahead of a", "123456 6 6 1 12", written("`AB"));
            checks.same("a row ahead of what is behind z", "6 6 1 12 123456", written("AB{"));
            checks.same("a high code", "6 1 123456 6 12", written("A\uD834\uDD00B"));
        });
    }

    private static void digits(Sentences sentences) {
        String words = "A digit makes the points of a to i for 1 to 9, and of j for 0, and ahead of them the sign number, "
                + "if it does not come right behind a digit.";
        sentences.term(TITLE, 33, words, checks -> {
            for (int digit = 0; digit <= 9; digit++) {
                checks.same("" + digit, "3456 " + LETTERS[(digit + 9) % 10], written("" + digit));
            }
            checks.same("right behind a digit", "3456 1 12", written("12"));
            checks.same("right behind 0 and 9", "3456 245 24 245", written("090"));
            checks.same("behind a letter", "1 3456 1", written("a1"));
            checks.same("behind a space", "3456 1 0 3456 12", written("1 2"));
            checks.same("behind a full stop", "3456 1 256 3456 12", written("1.2"));
            checks.same("behind a hyphen", "3456 1 36 3456 12", written("1-2"));
            checks.same("twelve: length", 13, at(TEXT, "123456789012", PLAIN).desk.lineLength());
        });
    }

    private static void otherCharacters(Sentences sentences) {
        sentences.term(TITLE, 33, "A space makes the cell 0;", checks -> {
            checks.same("between", "1 0 12", written("a b"));
            checks.same("at both ends", "0 1 0", written(" a "));
            checks.same("alone: length", 1, at(TEXT, " ", PLAIN).desk.lineLength());
        });
        String signs = "a full stop, comma, question mark and hyphen make their signs;";
        sentences.term(TITLE, 33, signs, checks -> checks.same("all four", "256 2 236 36", written(".,?-")));
        sentences.term(TITLE, 33, "any other character makes the points 123456.", checks -> {
            String own = " .,?-";
            for (int code = 32; code <= 126; code++) {
                if (!Character.isLetterOrDigit(code) && own.indexOf(code) < 0) {
                    checks.same("code " + code, "123456", written("" + (char) code));
                }
            }
            for (int code : new int[] {119040, 119041, 119200, 119294, 119295}) {
                checks.same("code " + code, "123456", written(Character.toString(code)));
            }
        });
    }

    private static void lines(Sentences sentences) {
        String ofKind = "The line of an element that is shown is: if its level is not LESS, and it is no TEXT, one cell "
                + "with the points of the first letter of the word of its kind, and 78;";
        sentences.term(TITLE, 32, ofKind, checks -> {
            checks.same("GROUP", "124578", line(new Bench()));
            checks.same("BUTTON", "1278 1", line(at(BUTTON, "a", PLAIN)));
            checks.same("CHECK", "1478 1 0 36", line(at(CHECK, "a", PLAIN)));
            checks.same("EDIT", "1578 1", line(at(EDIT, "a", PLAIN)));
            checks.same("TABLE", "234578 1", line(at(TABLE, "a", PLAIN)));
            checks.same("LIVE", "12378 1", line(at(LIVE, "a", PLAIN)));
            Bench bench = at(TABLE, "", PLAIN);
            bench.add(1, ROW, "a");
            bench.next();
            checks.same("ROW", "123578 1", line(bench));
            checks.same("TEXT", "1", line(at(TEXT, "a", PLAIN)));
            checks.same("TEXT by MORE", "1", line(at(TEXT, "a", MORE)));
        });
        sentences.term(TITLE, 32, ofKind, checks -> {
            checks.same("by LESS", "1", line(at(BUTTON, "a", LESS)));
            checks.same("by LESS, without a name", 0, at(BUTTON, "", LESS).desk.lineLength());
            checks.same("by MORE", "1278 1", line(at(BUTTON, "a", MORE)));
            Bench bench = at(BUTTON, "a", NONE);
            bench.desk.setRule(0, LESS);
            checks.same("by the level of its parent", "1", line(bench));
        });
        sentences.term(TITLE, 32, "then its name, written;", checks -> {
            checks.same("none", 1, at(BUTTON, "", PLAIN).desk.lineLength());
            checks.same("of one", "1278 6 1", line(at(BUTTON, "A", PLAIN)));
            checks.same("of twelve", 13, at(BUTTON, "abcdefghijkl", PLAIN).desk.lineLength());
            checks.same("the longest", 25, at(BUTTON, "A1A1A1A1A1A1", PLAIN).desk.lineLength());
        });
        sentences.term(TITLE, 32, "then, for a CHECK, the cell 0, and 123456 if it is on, 36 if it is off;", checks -> {
            Bench bench = at(CHECK, "a", PLAIN);
            checks.same("off", "1478 1 0 36", line(bench));
            bench.desk.set(1, true);
            checks.same("on", "1478 1 0 123456", line(bench));
            bench.desk.setRule(1, LESS);
            checks.same("on, by LESS", "1 0 123456", line(bench));
            checks.same("by LESS, without a name", "0 36", line(at(CHECK, "", LESS)));
        });
        edits(sentences);
    }

    private static void edits(Sentences sentences) {
        String content = "for an EDIT with a content the cell 0, and the content, written;";
        sentences.term(TITLE, 32, content, checks -> {
            Bench bench = at(EDIT, "1", PLAIN);
            checks.same("none", "1578 3456 1", line(bench));
            bench.act();
            bench.points("1");
            bench.points("8");
            checks.same("of one: it is not right behind the name's digit", "1578 3456 1 0 1", line(bench));
            bench.act();
            bench.points("7");
            bench.points("8");
            checks.same("none again", "1578 3456 1", line(bench));
        });
        sentences.term(TITLE, 32, content, checks -> {
            Bench bench = at(EDIT, "", LESS);
            bench.act();
            for (int i = 0; i < 12; i++) {
                bench.points("6");
                bench.points("1");
            }
            bench.points("8");
            checks.same("of twelve capitals", 1 + 2 + 12, bench.desk.lineLength());
            bench.goRight();
            checks.same("its end", "1 1 1 1 1 0 0 0 0 0", bench.pins());
        });
        sentences.term(TITLE, 32, "and for an EDIT in which one types the cell 78 at the end.", checks -> {
            Bench bench = at(EDIT, "a", PLAIN);
            checks.same("ahead of it", "1578 1", line(bench));
            bench.act();
            checks.same("while one types", "1578 1 78", line(bench));
            bench.points("12");
            checks.same("behind a content", "1578 1 0 12 78", line(bench));
            bench.desk.setRule(1, LESS);
            checks.same("by LESS", "1 0 12 78", line(bench));
            bench.points("8");
            checks.same("when typing has ended", "1 0 12", line(bench));
        });
        sentences.term(TITLE, 32, "and for an EDIT in which one types the cell 78 at the end.", checks -> {
            Bench bench = at(EDIT, "", LESS);
            checks.same("an empty line", 0, bench.desk.lineLength());
            bench.act();
            checks.same("it alone", "78", line(bench));
            checks.same("its number", 192, bench.desk.pin(0));
            bench.previous();
            bench.next();
            checks.same("when the cursor has gone and come back", 0, bench.desk.lineLength());
        });
    }

    private static void tenPins(Sentences sentences) {
        sentences.term(TITLE, 33, "There are ten pins.", checks -> {
            BrailleDesk desk = at(TEXT, "abcdefghijkl", PLAIN).desk;
            checks.index("pin -1", () -> desk.pin(-1));
            checks.same("the first one", 1, desk.pin(0));
            checks.same("the last one", 26, desk.pin(9));
            checks.index("pin 10, though the line has a cell for it", () -> desk.pin(10));
            checks.index("anew: pin -1", () -> desk.pinAnew(-1));
            checks.same("anew: the last one", 26, desk.pinAnew(9));
            checks.index("anew: pin 10", () -> desk.pinAnew(10));
        });
        String words = "They show the ten cells of the line of the element at the cursor from an offset on, "
                + "and 0 beyond its end.";
        sentences.term(TITLE, 33, words, checks -> {
            checks.same("a line of 0", "0 0 0 0 0 0 0 0 0 0", at(TEXT, "", PLAIN).pins());
            checks.same("a line of 1", "1 0 0 0 0 0 0 0 0 0", at(TEXT, "a", PLAIN).pins());
            checks.same("a line of 9", "1 1 1 1 1 1 1 1 1 0", at(TEXT, "aaaaaaaaa", PLAIN).pins());
            checks.same("a line of 10", "1 1 1 1 1 1 1 1 1 1", at(TEXT, "aaaaaaaaaa", PLAIN).pins());
            Bench bench = at(TEXT, "aaaaaaaaaabc", PLAIN);
            checks.same("a line of 12", "1 1 1 1 1 1 1 1 1 1", bench.pins());
            bench.goRight();
            checks.same("from 10 on", "12 14 0 0 0 0 0 0 0 0", bench.pins());
            checks.same("anew", "12 14 0 0 0 0 0 0 0 0", bench.pinsAnew());
            bench.previous();
            checks.same("of another element", "124578 0 0 0 0 0 0 0 0 0", bench.pins());
        });
    }

    private static void offsetAtFirst(Sentences sentences) {
        sentences.term(TITLE, 31, "The offset is 0 at first, and when the cursor comes to another element.", checks -> {
            checks.same("at first", 0, new BrailleDesk().offset());
            Bench bench = new Bench();
            bench.add(0, BUTTON, "abcdefghijkl");
            bench.add(0, TEXT, "abcdefghijkl");
            bench.next();
            bench.goRight();
            checks.same("ahead of it", 10, bench.desk.offset());
            bench.command("4");
            checks.same("by a command", 0, bench.desk.offset());
            bench.goRight();
            bench.next();
            checks.same("there is none to come to", 10, bench.desk.offset());
            bench.previous();
            bench.goRight();
            bench.tab();
            checks.same("by TAB to where it is", 10, bench.desk.offset());
            bench.desk.hide(1, true);
            checks.same("when it is lost", 0, bench.desk.offset());
        });
        sentences.term(TITLE, 31, "when the cursor comes to another element.", checks -> {
            Bench bench = new Bench();
            bench.add(0, BUTTON, "abcdefghijkl");
            bench.add(0, BUTTON, "abcdefghijkl");
            bench.next();
            bench.goRight();
            bench.points("12");
            checks.same("by a letter", 0, bench.desk.offset());
            bench.goRight();
            bench.points("12");
            checks.same("by a letter, where there is none", 10, bench.desk.offset());
            bench.desk.remove(2);
            checks.same("when it is removed", 0, bench.desk.offset());
        });
    }

    private static final String CLIPPED = "Behind each call, if the offset is above 0 and not below the length of that "
            + "line, it becomes the greatest multiple of 10 that is below the length, or 0 if there is none.";

    /** At a TEXT, with the offset so many times 10. */
    private static Bench shifted(String name, int times) {
        Bench bench = at(TEXT, name, PLAIN);
        for (int i = 0; i < times; i++) {
            bench.goRight();
        }
        return bench;
    }

    private static void renamed(Checks checks, int times, String to, int length, int due) {
        Bench bench = shifted("A1A1A1A1A1A1", times);
        checks.same("ahead of it", 10 * times, bench.desk.offset());
        bench.rename(1, to);
        String what = "from " + 10 * times + " by a line of " + length;
        checks.same(what + ": length", length, bench.desk.lineLength());
        checks.same(what, due, bench.desk.offset());
    }

    private static void offsetBehindEachCall(Sentences sentences) {
        sentences.term(TITLE, 31, CLIPPED, checks -> {
            renamed(checks, 2, "a1a1a1a1a1", 20 - 1, 10);
            renamed(checks, 2, "A1A1A1A1A1", 20, 10);
            renamed(checks, 2, "A1A1A1A1A1A", 22, 20);
            renamed(checks, 2, "A1A1A1A1A1k", 21, 20);
            renamed(checks, 2, "abcdefghijk", 11, 10);
            renamed(checks, 2, "abcdefghij", 10, 0);
            renamed(checks, 2, "a", 1, 0);
            renamed(checks, 2, "", 0, 0);
            renamed(checks, 1, "abcdefghijkl", 12, 10);
            renamed(checks, 1, "abcdefghijk", 11, 10);
            renamed(checks, 1, "abcdefghij", 10, 0);
            renamed(checks, 1, "abcdefghi", 9, 0);
            renamed(checks, 1, "", 0, 0);
            renamed(checks, 0, "", 0, 0);
        });
        sentences.term(TITLE, 31, CLIPPED, checks -> {
            Bench bench = at(BUTTON, "abcdefghij", PLAIN);
            bench.goRight();
            bench.desk.setRule(1, LESS);
            checks.same("by setRule", 0, bench.desk.offset());
            bench.desk.setRule(1, NONE);
            checks.same("it does not come back", 0, bench.desk.offset());
            bench.goRight();
            bench.desk.setRule(0, LESS);
            checks.same("by setRule above it", 0, bench.desk.offset());
        });
        sentences.term(TITLE, 31, CLIPPED, checks -> {
            Bench bench = at(EDIT, "abcdefghi", PLAIN);
            bench.act();
            bench.goRight();
            checks.same("at the mark of typing", 10, bench.desk.offset());
            bench.points("8");
            checks.same("when typing ends", 0, bench.desk.offset());
            bench.act();
            bench.points("1");
            bench.goRight();
            bench.points("7");
            checks.same("when a character is taken away, and the mark stays", 10, bench.desk.offset());
            bench.tab();
            checks.same("by TAB, which ends typing", 0, bench.desk.offset());
        });
        sentences.term(TITLE, 31, CLIPPED, checks -> {
            Bench bench = at(EDIT, "a", LESS);
            bench.act();
            for (int i = 0; i < 9; i++) {
                bench.points("1");
            }
            checks.same("length", 12, bench.desk.lineLength());
            bench.goRight();
            bench.points("7");
            checks.same("a line of 11", 10, bench.desk.offset());
            bench.points("7");
            checks.same("a line of 10", 0, bench.desk.offset());
        });
    }
}
