/** The sentences of "Speech". */
final class SpeechSentences extends Constants {
    private static final String TITLE = "Speech";

    private SpeechSentences() {
    }

    static void all(Sentences sentences) {
        texts(sentences);
        news(sentences);
        answers(sentences);
        alerts(sentences);
        goesOn(sentences);
        hush(sentences);
        ticks(sentences);
    }

    /** LIVEs 1 to 7 that have told nothing so far, and an EDIT 8. */
    private static Bench lives() {
        Bench bench = new Bench();
        for (int i = 1; i <= 7; i++) {
            bench.add(0, LIVE, "");
        }
        bench.add(0, EDIT, "ab cd");
        return bench;
    }

    /** A NEWS, by a region that has told none so far. */
    private static void news(Bench bench, int region, String text) {
        bench.add(region, TEXT, text);
    }

    private static void newsFrom(Bench bench, int first, int last) {
        for (int region = first; region <= last; region++) {
            news(bench, region, "" + (char) ('a' + region - 1));
        }
    }

    /** An ALERT, by a region that is LOUD from then on. */
    private static void alert(Bench bench, String text) {
        bench.desk.setManner(7, LOUD);
        bench.add(7, TEXT, text);
    }

    private static void texts(Sentences sentences) {
        String words = "Texts come with a priority: NEWS, ANSWER or ALERT; each answer told above comes as an ANSWER.";
        sentences.term(TITLE, 41, words, checks -> {
            Bench bench = lives();
            news(bench, 1, "a");
            checks.same("of a region", "1 0 0", bench.waiting());
            bench.previous();
            checks.same("\"end\"", "1 1 0", bench.waiting());
            alert(bench, "b");
            checks.same("of a LOUD region", "1 1 1", bench.waiting());
            BrailleDesk desk = bench.desk;
            checks.argument("below NEWS", () -> desk.waiting(NEWS - 1));
            checks.argument("above ALERT", () -> desk.waiting(ALERT + 1));
        });
        String waits = "A text waits until it begins, and is being spoken until its last character was.";
        sentences.term(TITLE, 39, waits, checks -> {
            Bench bench = lives();
            news(bench, 1, "ab");
            checks.same("it waits: speaking", NONE, bench.desk.speaking());
            checks.same("it waits: left", 0, bench.desk.left());
            bench.desk.tick(1);
            checks.same("it has begun: waiting", "0 0 0", bench.waiting());
            checks.same("it has begun: speaking", NEWS, bench.desk.speaking());
            checks.same("it has begun: left", 1, bench.desk.left());
            bench.desk.tick(1);
            checks.same("its last character was: speaking", NONE, bench.desk.speaking());
            checks.same("its last character was: left", 0, bench.desk.left());
            Bench one = lives();
            news(one, 1, "x");
            one.desk.tick(1);
            checks.same("of a single character: speaking", NONE, one.desk.speaking());
            checks.same("of a single character: heard", 1, one.desk.heard());
        });
        sentences.term(TITLE, 41, "An empty text does not come.", checks -> {
            Bench bench = new Bench();
            bench.add(0, TEXT, "");
            bench.add(0, TEXT, "b");
            bench.again();
            bench.next();
            checks.same("empty words wait not, and drop nothing", "0 1 0", bench.waiting());
            checks.same("dropped", 0, bench.desk.dropped());
            bench.desk.tick(1);
            bench.again();
            checks.same("nor do they cut what is being spoken", ANSWER, bench.desk.speaking());
            checks.same("dropped", 0, bench.desk.dropped());
            checks.same("it goes on", "roup", bench.listen(50));
            bench.next();
            checks.same("words of one character come", "0 1 0", bench.waiting());
        });
        sentences.term(TITLE, 41, "An empty text does not come.", checks -> {
            Bench bench = lives();
            news(bench, 1, "");
            checks.same("no NEWS", "0 0 0", bench.waiting());
            alert(bench, "");
            checks.same("no ALERT", "0 0 0", bench.waiting());
        });
    }

    private static void news(Sentences sentences) {
        sentences.term(TITLE, 37, "When a NEWS comes, it waits behind all others that wait;", checks -> {
            Bench bench = lives();
            newsFrom(bench, 1, 3);
            checks.same("all wait", "3 0 0", bench.waiting());
            checks.same("in their order", "abc", bench.listen(50));
            Bench cut = lives();
            cut.again();
            cut.desk.tick(1);
            news(cut, 1, "a");
            checks.same("it cuts no ANSWER", ANSWER, cut.desk.speaking());
            checks.same("it drops none", 0, cut.desk.dropped());
            checks.same("behind it", "roupa", cut.listen(50));
        });
        String six = "if six wait then, the first of them is dropped.";
        sentences.term(TITLE, 44, six, checks -> {
            Bench bench = lives();
            newsFrom(bench, 1, 5);
            checks.same("five", "5 0 0", bench.waiting());
            checks.same("five: dropped", 0, bench.desk.dropped());
            news(bench, 6, "f");
            checks.same("the sixth one", "5 0 0", bench.waiting());
            checks.same("the sixth one: dropped", 1, bench.desk.dropped());
            news(bench, 7, "g");
            checks.same("the seventh one", "5 0 0", bench.waiting());
            checks.same("the seventh one: dropped", 2, bench.desk.dropped());
            checks.same("the last five", "cdefg", bench.listen(50));
        });
        sentences.term(TITLE, 44, six, checks -> {
            Bench bench = lives();
            news(bench, 1, "xyz");
            bench.desk.tick(1);
            newsFrom(bench, 2, 6);
            checks.same("the one that is being spoken does not wait", "5 0 0", bench.waiting());
            checks.same("dropped", 0, bench.desk.dropped());
            checks.same("speaking", NEWS, bench.desk.speaking());
            news(bench, 7, "g");
            checks.same("one too many", 1, bench.desk.dropped());
            checks.same("it is spoken to its end", "yzcdefg", bench.listen(50));
        });
        sentences.term(TITLE, 44, six, checks -> {
            Bench bench = lives();
            newsFrom(bench, 1, 5);
            bench.again();
            alert(bench, "z");
            checks.same("others that wait do not count", "5 1 1", bench.waiting());
            checks.same("dropped", 0, bench.desk.dropped());
        });
    }

    private static void answers(Sentences sentences) {
        String words = "When an ANSWER comes, one that waits or is being spoken is dropped, and so is a NEWS that is being "
                + "spoken; then it waits.";
        sentences.term(TITLE, 44, words, checks -> {
            Bench waits = lives();
            waits.again();
            waits.next();
            checks.same("one that waits", 1, waits.desk.dropped());
            checks.same("the new one waits", "0 1 0", waits.waiting());
            checks.same("it is heard alone", "live", waits.listen(50));
            Bench spoken = lives();
            spoken.again();
            spoken.desk.tick(2);
            spoken.next();
            checks.same("one that is being spoken", 1, spoken.desk.dropped());
            checks.same("none is then", NONE, spoken.desk.speaking());
            checks.same("the new one waits", "0 1 0", spoken.waiting());
            checks.same("it is heard", "live", spoken.listen(50));
            Bench none = lives();
            none.again();
            none.desk.tick(5);
            none.next();
            checks.same("one whose last character was spoken", 0, none.desk.dropped());
        });
        sentences.term(TITLE, 44, words, checks -> {
            Bench news = lives();
            news(news, 1, "xyz");
            news(news, 2, "w");
            news.desk.tick(1);
            news.again();
            checks.same("a NEWS that is being spoken", 1, news.desk.dropped());
            checks.same("a NEWS that waits stays", "1 1 0", news.waiting());
            checks.same("the ANSWER ahead of it", "groupw", news.listen(50));
            Bench alert = lives();
            alert(alert, "xyz");
            alert.desk.tick(1);
            alert.again();
            checks.same("an ALERT that is being spoken goes on", ALERT, alert.desk.speaking());
            checks.same("nothing is dropped", 0, alert.desk.dropped());
            checks.same("behind it", "yzgroup", alert.listen(50));
        });
    }

    private static void alerts(Sentences sentences) {
        sentences.term(TITLE, 37, "When an ALERT comes, it waits behind all others that wait;", checks -> {
            Bench bench = lives();
            alert(bench, "x");
            alert(bench, "y");
            alert(bench, "z");
            checks.same("all wait", "0 0 3", bench.waiting());
            checks.same("in their order", "xyz", bench.listen(50));
            alert(bench, "xyz");
            bench.desk.tick(1);
            alert(bench, "w");
            checks.same("it cuts no ALERT", "yzw", bench.listen(50));
            checks.same("none is dropped", 0, bench.desk.dropped());
        });
        sentences.term(TITLE, 37, "When an ALERT comes, it waits behind all others that wait;", checks -> {
            Bench bench = new Bench();
            bench.add(0, LIVE, "");
            bench.desk.setManner(1, LOUD);
            bench.add(1, TEXT, "Z");
            bench.next();
            bench.next();
            bench.hush();
            bench.desk.tick(1);
            StringBuilder due = new StringBuilder();
            for (char name = 'a'; name < 'a' + 19; name++) {
                bench.rename(2, "" + name);
                due.append(name);
            }
            bench.desk.remove(2);
            checks.same("as many as can be", "0 0 21", bench.waiting());
            checks.same("all are heard, in their order", due + "gone slost live", bench.listen(50));
        });
        sentences.term(TITLE, 44, "a NEWS that is being spoken is dropped;", checks -> {
            Bench bench = lives();
            news(bench, 1, "abc");
            news(bench, 2, "d");
            bench.desk.tick(1);
            alert(bench, "x");
            checks.same("dropped", 1, bench.desk.dropped());
            checks.same("none is being spoken", NONE, bench.desk.speaking());
            checks.same("left", 0, bench.desk.left());
            checks.same("the one that waits stays", "1 0 1", bench.waiting());
            checks.same("what is heard", "xd", bench.listen(50));
        });
    }

    /** Behind some ticks of an ANSWER an ALERT comes; what is heard then. */
    private static String cut(String name, int ticks) {
        Bench bench = lives();
        bench.rename(8, name);
        bench.desk.setRule(8, LESS);
        bench.tab();
        bench.desk.tick(ticks);
        alert(bench, "!");
        return bench.listen(50);
    }

    private static void goesOn(Sentences sentences) {
        String words = "an ANSWER that is being spoken waits again, and will go on with the first character of the word to "
                + "which its next character belongs,";
        sentences.term(TITLE, 37, words, checks -> {
            checks.same("within the first word", "!ab cd", cut("ab cd", 1));
            checks.same("at the first character of the next word", "!cd", cut("ab cd", 3));
            checks.same("within the next word", "!cd", cut("ab cd", 4));
            checks.same("a long word, its last character", "!abcdefghijkl", cut("abcdefghijkl", 11));
            checks.same("when its last character was spoken", "!", cut("ab cd", 5));
            Bench bench = lives();
            bench.again();
            bench.desk.tick(2);
            alert(bench, "!");
            checks.same("it waits", "0 1 1", bench.waiting());
            checks.same("none is being spoken", NONE, bench.desk.speaking());
            checks.same("it is not dropped", 0, bench.desk.dropped());
            bench.desk.tick(2);
            checks.same("left, when it goes on", 4, bench.desk.left());
        });
        sentences.term(TITLE, 37, words, checks -> {
            Bench bench = lives();
            bench.again();
            bench.desk.tick(3);
            alert(bench, "x");
            bench.desk.tick(2);
            alert(bench, "y");
            checks.same("cut twice", "ygroup", bench.listen(50));
            bench.again();
            bench.desk.tick(3);
            alert(bench, "x");
            bench.again();
            checks.same("dropped by another ANSWER while it waits again", 1, bench.desk.dropped());
            checks.same("which begins at its beginning", "xgroup", bench.listen(50));
            bench.tab();
            bench.desk.tick(4);
            alert(bench, "y");
            bench.again();
            checks.same("the one before would have gone on later", "yab cd edit", bench.listen(50));
        });
        String space = "or with that character if it is a space; a word is a row of characters other than spaces, "
                + "as long as it can be.";
        sentences.term(TITLE, 37, space, checks -> {
            checks.same("the next character is a space", "! cd", cut("ab cd", 2));
            checks.same("the second space of two", "! d", cut("ab  d", 3));
            checks.same("behind two spaces", "!d", cut("ab  d", 4));
            checks.same("a space at the end", "! ", cut("ab ", 2));
            checks.same("signs belong to a word", "!a-b.c d", cut("a-b.c d", 4));
            checks.same("a word between two others", "!cd ef", cut("ab cd ef", 4));
        });
        sentences.term(TITLE, 37, space, checks -> {
            Bench bench = lives();
            alert(bench, "x");
            bench.again();
            alert(bench, "y");
            checks.same("one that only waits stays as it is", "0 1 2", bench.waiting());
            checks.same("from its beginning", "xygroup", bench.listen(50));
        });
    }

    private static void hush(Sentences sentences) {
        String words = "By HUSH all NEWS and ANSWERs are dropped, those that wait and those that are being spoken.";
        sentences.term(TITLE, 44, words, checks -> {
            Bench waiting = lives();
            newsFrom(waiting, 1, 5);
            waiting.again();
            alert(waiting, "x");
            waiting.hush();
            checks.same("those that wait", "0 0 1", waiting.waiting());
            checks.same("five NEWS and an ANSWER", 6, waiting.desk.dropped());
            checks.same("the ALERT is heard", "x", waiting.listen(50));
            waiting.hush();
            checks.same("in silence", 6, waiting.desk.dropped());
        });
        sentences.term(TITLE, 44, words, checks -> {
            Bench answer = lives();
            answer.again();
            answer.desk.tick(1);
            answer.hush();
            checks.same("an ANSWER that is being spoken", 1, answer.desk.dropped());
            checks.same("silence", "", answer.listen(50));
            Bench news = lives();
            newsFrom(news, 1, 2);
            news(news, 3, "abc");
            news.desk.tick(3);
            checks.same("a NEWS is being spoken", 2, news.desk.left());
            news.hush();
            checks.same("a NEWS that is being spoken", 1, news.desk.dropped());
            checks.same("speaking", NONE, news.desk.speaking());
            Bench alert = lives();
            alert(alert, "xyz");
            alert.desk.tick(1);
            alert.hush();
            checks.same("an ALERT that is being spoken goes on", ALERT, alert.desk.speaking());
            checks.same("to its end", "yz", alert.listen(50));
            checks.same("dropped", 0, alert.desk.dropped());
        });
    }

    private static void ticks(Sentences sentences) {
        sentences.term(TITLE, 38, "With a tick the time grows by 1;", checks -> {
            BrailleDesk desk = new BrailleDesk();
            checks.same("at first", 0, desk.time());
            desk.tick(1);
            checks.same("one", 1, desk.time());
            desk.tick(50);
            checks.same("fifty more", 51, desk.time());
        });
        sentences.term(TITLE, 37, "then what regions keep comes, as told below;", checks -> {
            Bench bench = new Bench();
            bench.add(0, LIVE, "");
            bench.add(1, TEXT, "a");
            bench.add(1, TEXT, "b");
            checks.same("it comes ahead of the speech of that tick", 2, bench.desk.tick(5));
            checks.same("what was kept", (int) 'b', bench.desk.heardAt(0));
        });
        String words = "then, if no text is being spoken, the first ALERT that waits begins, otherwise the ANSWER, "
                + "otherwise the first NEWS;";
        sentences.term(TITLE, 37, words, checks -> {
            Bench bench = lives();
            newsFrom(bench, 1, 2);
            bench.again();
            alert(bench, "xx");
            alert(bench, "yy");
            checks.same("all of them", "xxyygroupab", bench.listen(50));
            newsFrom(bench, 3, 3);
            bench.desk.tick(50);
            news(bench, 4, "pq");
            bench.desk.tick(1);
            news(bench, 5, "rs");
            checks.same("one that is being spoken goes on", "qrs", bench.listen(50));
            checks.same("no text waits", 0, bench.desk.tick(50));
        });
        sentences.term(TITLE, 37, "then the next character of the text that is being spoken is spoken.", checks -> {
            Bench bench = lives();
            news(bench, 1, "ab");
            news(bench, 2, "c");
            checks.same("a tick", "a", bench.listen(1));
            checks.same("a tick", "b", bench.listen(1));
            checks.same("the next text at once", "c", bench.listen(1));
            checks.same("then none", "", bench.listen(1));
            bench.again();
            checks.same("as many as the ticks", 4, bench.desk.tick(4));
            checks.same("fewer than the ticks", 1, bench.desk.tick(2));
        });
    }
}
