/** Promises 27 and 30, and 17 and 18: what chords mean while one types. */
public final class TypingTest {
    private static final Checks checks = new Checks("TypingTest");
    private static final String[] LETTERS = (
        "1 12 14 145 15 124 1245 125 24 245 13 123 134 1345 135 1234 12345 1235 234 2345 136 1236 2456 1346 13456 1356"
    ).split(" ");

    public static void main(String[] args) {
        lettersAndDigits();
        signs();
        numbers();
        capitals();
        spaces();
        full();
        takingBack();
        ending();
        commands();
        beginning();
        otherChords();
        checks.finish();
    }

    /** An EDIT 1 between two TEXTs, in which one types. */
    private static Bench typing() {
        Bench bench = new Bench();
        bench.add(0, BrailleDesk.EDIT, "e");
        bench.add(0, BrailleDesk.TEXT, "t");
        bench.addAt(0, 0, BrailleDesk.TEXT, "s");
        bench.tab();
        bench.act();
        bench.listen(50);
        return bench;
    }

    private static Bench typed(String... chords) {
        Bench bench = typing();
        for (String points : chords) {
            if (points.isEmpty()) {
                bench.space();
            } else {
                bench.points(points);
            }
        }
        return bench;
    }

    private static void content(String due, String... chords) {
        Bench bench = typed(chords);
        checks.same("18: by " + String.join(" ", chords), due, bench.content(1));
        checks.same("17: by " + String.join(" ", chords), due.length(), bench.desk.contentLength(1));
    }

    private static void lettersAndDigits() {
        for (int i = 0; i < 26; i++) {
            String small = "" + (char) ('a' + i);
            content(small, LETTERS[i]);
            content(small.toUpperCase(), "6", LETTERS[i]);
            content(i < 10 ? "" + (i + 1) % 10 : small, "3456", LETTERS[i]);
            checks.same("27: the answer is " + small, small, typed(LETTERS[i]).listen(9));
        }
        checks.same("27: a digit is the answer", "0", typed("3456", "245").listen(9));
        checks.same("27: a capital is the answer", "A", typed("6", "1").listen(9));
        checks.same("41: one answer alone", "0 1 0", typed("1", "12").waiting());
        checks.same("44: the one before is dropped", typed("1").desk.dropped() + 1, typed("1", "12").desk.dropped());
    }

    private static void signs() {
        content(".", "256");
        content(",", "2");
        content("?", "236");
        content("-", "36");
        content(" ", "");
        checks.same("27: a sign is the answer", "?", typed("236").listen(9));
        for (String sign : new String[] {"6", "3456", "56"}) {
            checks.same("41: no answer by " + sign, "0 0 0", typed(sign).waiting());
            checks.same("17: no character by " + sign, 0, typed(sign).desk.contentLength(1));
        }
    }

    private static void numbers() {
        content("12", "3456", "1", "12");
        content("1kb", "3456", "1", "13", "12");
        content("1b", "3456", "1", "56", "12");
        content("b", "56", "12");
        content("1.2", "3456", "1", "256", "12");
        content("1,2", "3456", "1", "2", "12");
        content("1?2", "3456", "1", "236", "12");
        content("1-2", "3456", "1", "36", "12");
        content("1 b", "3456", "1", "", "12");
        content("1Ab", "3456", "1", "6", "1", "12");
        content("1B2", "3456", "1", "6", "12", "3456", "12");
        content("A", "3456", "6", "1");
        content("A", "6", "3456", "1");
        content("Ab", "6", "3456", "1", "12");
        content("b", "3456", "56", "12");
        content("k", "3456", "13");
        content("kb", "3456", "13", "12");
    }

    private static void capitals() {
        content("Ab", "6", "1", "12");
        content("Ab", "6", "6", "1", "12");
        content(".Ab", "6", "256", "1", "12");
        content(",A", "6", "2", "1");
        content("?A", "6", "236", "1");
        content("-A", "6", "36", "1");
        content(" A", "6", "", "1");
        content("A", "6", "56", "1");
        content("KA", "6", "13", "6", "1");
    }

    private static void spaces() {
        checks.same("27: the answer by a space", "space", typed("").listen(9));
        content("a b", "1", "", "12");
        content("  ", "", "");
        content(" a", "3456", "", "1");
        Bench bench = typed("1", "");
        bench.listen(50);
        bench.points("7");
        checks.same("27: the answer by taking a space away", "space", bench.listen(9));
        checks.same("18: without the space", "a", bench.content(1));
    }

    private static void full() {
        Bench bench = typed("1", "1", "1", "1", "1", "1", "1", "1", "1", "1", "1");
        bench.listen(50);
        bench.points("13");
        checks.same("27: the twelfth one", "k", bench.listen(9));
        bench.points("1");
        checks.same("27: full", "full", bench.listen(9));
        bench.space();
        checks.same("27: full for a space", "full", bench.listen(9));
        bench.points("256");
        checks.same("27: full for a sign", "full", bench.listen(9));
        checks.same("18: twelve", "aaaaaaaaaaak", bench.content(1));
        bench.points("6");
        bench.points("56");
        checks.same("27: no answer by a sign that tells how", "", bench.listen(9));
        bench.points("1");
        bench.points("7");
        bench.listen(50);
        bench.points("12");
        checks.same("27: nothing was done, so that the capital is still told", "B", bench.listen(9));
        bench.points("3456");
        bench.points("13");
        bench.space();
        bench.points("7");
        bench.points("12");
        checks.same("27: nothing was done, so that numbers are still on", "2", bench.listen(9));
        checks.same("17: still twelve", 12, bench.desk.contentLength(1));
    }

    private static void takingBack() {
        Bench bench = typed("1", "6", "12");
        bench.listen(50);
        bench.points("7");
        checks.same("27: what is taken away", "B", bench.listen(9));
        checks.same("18: what is left", "a", bench.content(1));
        bench.points("7");
        checks.same("27: what is taken away last", "a", bench.listen(9));
        bench.points("7");
        checks.same("27: nothing to take away", "none", bench.listen(9));
        checks.same("30: typing goes on", true, bench.desk.isTyping());
        content("A", "6", "7", "1");
        content("12", "3456", "1", "14", "7", "12");
    }

    private static void ending() {
        Bench bench = typed("1", "12");
        bench.listen(50);
        bench.points("8");
        checks.same("30: typing no more", false, bench.desk.isTyping());
        checks.same("27: the words of the EDIT", "e edit ab", bench.listen(50));
        checks.same("29: the focus stays", 1, bench.desk.focus());
        bench.points("1");
        checks.same("18: nothing is typed then", "ab", bench.content(1));
        bench.points("7");
        checks.same("18: nor taken away", "ab", bench.content(1));
        checks.same("27: nor told", "", bench.listen(50));
    }

    private static void commands() {
        String[] going = {"1", "4", "3", "2345"};
        for (String points : going) {
            Bench bench = typed("1");
            bench.command(points);
            checks.same("30: typing ends by " + points, false, bench.desk.isTyping());
            checks.same("29: the focus stays by " + points, 1, bench.desk.focus());
        }
        String[] staying = {"6", "2", "5", "7", "123", "456", "1235", "8", "12"};
        for (String points : staying) {
            Bench bench = typed("1");
            bench.command(points);
            checks.same("30: typing goes on by " + points, true, bench.desk.isTyping());
            checks.same("18: nothing typed by " + points, "a", bench.content(1));
        }
        Bench last = new Bench();
        last.add(0, BrailleDesk.EDIT, "e");
        last.next();
        last.act();
        last.next();
        checks.same("30: typing goes on where NEXT ends", true, last.desk.isTyping());
        Bench words = typed("1");
        words.listen(50);
        words.again();
        checks.same("27: AGAIN while one types", "e edit a", words.listen(50));
        words.rename(1, "x");
        words.desk.setRule(1, BrailleDesk.LESS);
        checks.same("30: typing goes on while the EDIT changes", true, words.desk.isTyping());
    }

    private static void beginning() {
        Bench bench = typed("6", "3456");
        bench.act();
        bench.points("1");
        checks.same("27: ACT again: no capital, no numbers", "a", bench.content(1));
        bench.points("3456");
        bench.points("8");
        bench.act();
        bench.points("1");
        checks.same("27: begun anew", "aa", bench.content(1));
        bench.points("8");
        bench.points("12");
        checks.same("28: a letter goes on when one does not type", 1, bench.desk.cursor());
        checks.same("27: and finds none", "none", bench.listen(50));
    }

    private static void otherChords() {
        String meant = "," + String.join(",", LETTERS) + ",6,3456,56,256,2,236,36,7,8,";
        for (int keys = 1; keys < 256; keys++) {
            String points = Bench.points(keys);
            if (!meant.contains("," + points + ",")) {
                Bench bench = typed("6", points);
                checks.same("41: nothing by " + points, 0, bench.desk.waiting(1));
                checks.same("17: nothing typed by " + points, 0, bench.desk.contentLength(1));
                checks.same("30: typing goes on by " + points, true, bench.desk.isTyping());
                bench.points("1");
                checks.same("18: what was told stays so by " + points, "A", bench.content(1));
            }
        }
    }
}
