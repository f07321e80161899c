/** The sentences of the promises 35 to 45. */
final class PromisesOfSpeech extends Constants {
    private static final String NO_ELEMENT = "Throws `IndexOutOfBoundsException` if there is no such element";

    private PromisesOfSpeech() {
    }

    static void all(Sentences sentences) {
        wordsLength(sentences);
        wordsAt(sentences);
        tick(sentences);
        speaking(sentences);
        waiting(sentences);
        heard(sentences);
        droppedAndSwallowed(sentences);
    }

    /** A GROUP 1 that is hidden with a TEXT 2 below it, a TEXT 3 that is gone, a BUTTON 4; words wait. */
    private static Bench some() {
        Bench bench = new Bench();
        bench.add(0, GROUP, "g");
        bench.add(1, TEXT, "t");
        bench.desk.remove(bench.add(0, TEXT, ""));
        bench.add(0, BUTTON, "b");
        bench.desk.hide(1, true);
        bench.tab();
        return bench;
    }

    private static void wordsLength(Sentences sentences) {
        sentences.promise(35, "Returns how many characters the words of an element have.", checks -> {
            Bench bench = some();
            checks.same("the screen", 5, bench.desk.wordsLength(0));
            checks.same("a name and a kind", 8, bench.desk.wordsLength(4));
            checks.same("none", 0, bench.desk.wordsLength(bench.add(0, TEXT, "")));
        });
        sentences.promise(35, "Returns how many characters the words of an element have.", checks -> {
            Bench bench = new Bench();
            bench.desk.setRule(0, MORE);
            for (int i = 0; i < 10; i++) {
                bench.add(0, EDIT, "abcdefghijkl");
            }
            for (int i = 0; i < 10; i++) {
                bench.next();
            }
            bench.act();
            for (int i = 0; i < 12; i++) {
                bench.points("1");
            }
            checks.same("as long as can be", "abcdefghijkl edit aaaaaaaaaaaa 10 of 10", bench.words(10));
        });
        sentences.promise(35, NO_ELEMENT, checks -> {
            for (int element : new int[] {-1, 3, 5, 40, Integer.MIN_VALUE, Integer.MAX_VALUE}) {
                checks.refused("element " + element, "IndexOutOfBoundsException", PromisesOfSpeech::some,
                        desk -> desk.wordsLength(element));
            }
        });
        sentences.promise(35, "Throws `IllegalStateException` if it is not shown", checks -> {
            checks.refused("hidden", "IllegalStateException", PromisesOfSpeech::some, desk -> desk.wordsLength(1));
            checks.refused("below a hidden one", "IllegalStateException", PromisesOfSpeech::some,
                    desk -> desk.wordsLength(2));
            Bench bench = some();
            bench.desk.hide(1, false);
            checks.same("shown", 7, bench.desk.wordsLength(1));
        });
    }

    private static void wordsAt(Sentences sentences) {
        sentences.promise(36, "Returns the code of a character of the words of an element.", checks -> {
            BrailleDesk desk = some().desk;
            checks.same("the first one", (int) 'b', desk.wordsAt(4, 0));
            checks.same("the space", 32, desk.wordsAt(4, 1));
            checks.same("the last one", (int) 'n', desk.wordsAt(4, 7));
        });
        String words = "Throws `IllegalStateException` if there is such an element, and it is not shown";
        sentences.promise(36, words, checks -> {
            for (int index : new int[] {0, -1, 99}) {
                checks.refused("hidden, index " + index, "IllegalStateException", PromisesOfSpeech::some,
                        desk -> desk.wordsAt(1, index));
                checks.refused("below a hidden one, index " + index, "IllegalStateException", PromisesOfSpeech::some,
                        desk -> desk.wordsAt(2, index));
                checks.refused("gone, index " + index, "IndexOutOfBoundsException", PromisesOfSpeech::some,
                        desk -> desk.wordsAt(3, index));
            }
        });
        sentences.promise(36, NO_ELEMENT + ", or its words have no such index", checks -> {
            for (int element : new int[] {-1, 3, 5, 40, Integer.MIN_VALUE, Integer.MAX_VALUE}) {
                checks.refused("element " + element, "IndexOutOfBoundsException", PromisesOfSpeech::some,
                        desk -> desk.wordsAt(element, 0));
            }
            for (int index : new int[] {-1, 8, Integer.MIN_VALUE, Integer.MAX_VALUE}) {
                checks.refused("index " + index, "IndexOutOfBoundsException", PromisesOfSpeech::some,
                        desk -> desk.wordsAt(4, index));
            }
            Bench bench = some();
            bench.add(0, TEXT, "");
            checks.index("index 0 of none", () -> bench.desk.wordsAt(5, 0));
        });
    }

    private static void tick(Sentences sentences) {
        sentences.promise(37, "Lets ticks pass.", checks -> {
            BrailleDesk desk = some().desk;
            desk.tick(3);
            checks.same("time", 3, desk.time());
            checks.same("heard", 3, desk.heard());
        });
        sentences.promise(37, "- `ticks`: 1 to 50", checks -> {
            BrailleDesk desk = new BrailleDesk();
            checks.argument("0", () -> desk.tick(0));
            desk.tick(1);
            checks.same("1", 1, desk.time());
            desk.tick(50);
            checks.same("50", 51, desk.time());
            checks.argument("51", () -> desk.tick(51));
        });
        sentences.promise(37, "Returns how many characters are spoken in them.", checks -> {
            BrailleDesk desk = some().desk;
            checks.same("as many as ticks", 1, desk.tick(1));
            checks.same("as many as ticks", 6, desk.tick(6));
            checks.same("the last one", 1, desk.tick(50));
            checks.same("none", 0, desk.tick(50));
            Bench bench = Bench.alerts(20);
            checks.same("fifty", 50, bench.desk.tick(50));
        });
        sentences.promise(37, "Throws `IllegalArgumentException` if ticks is out of range", checks -> {
            for (int ticks : new int[] {0, 51, -1, Integer.MIN_VALUE, Integer.MAX_VALUE}) {
                checks.refused("ticks " + ticks, "IllegalArgumentException", PromisesOfSpeech::some,
                        desk -> desk.tick(ticks));
            }
        });
        sentences.promise(38, "Returns the time: how many ticks have passed.", checks -> {
            Bench bench = some();
            checks.same("none", 0, bench.desk.time());
            bench.desk.tick(1);
            checks.same("one", 1, bench.desk.time());
            bench.next();
            checks.same("no other call counts", 1, bench.desk.time());
            for (int i = 0; i < 100; i++) {
                bench.desk.tick(50);
            }
            checks.same("many", 5001, bench.desk.time());
        });
    }

    private static void speaking(Sentences sentences) {
        sentences.promise(39, "Returns the priority of the text that is being spoken; NONE if none is.", checks -> {
            Bench bench = new Bench();
            bench.add(0, LIVE, "");
            bench.add(1, TEXT, "ab");
            checks.same("none, one waits", NONE, bench.desk.speaking());
            bench.desk.tick(1);
            checks.same("NEWS", NEWS, bench.desk.speaking());
            bench.again();
            checks.same("none, it was dropped", NONE, bench.desk.speaking());
            bench.desk.tick(1);
            checks.same("ANSWER", ANSWER, bench.desk.speaking());
            bench.desk.setManner(1, LOUD);
            bench.rename(2, "bc");
            checks.same("none, it waits again", NONE, bench.desk.speaking());
            bench.desk.tick(1);
            checks.same("ALERT", ALERT, bench.desk.speaking());
            bench.desk.tick(1);
            checks.same("none, its last character was spoken", NONE, bench.desk.speaking());
        });
        sentences.promise(40, "Returns how many characters of that text are still to be spoken; 0 if none is.", checks -> {
            Bench bench = some();
            checks.same("none is, one waits", 0, bench.desk.left());
            for (int left = 7; left >= 0; left--) {
                bench.desk.tick(1);
                checks.same("left", left, bench.desk.left());
            }
            bench.desk.tick(1);
            checks.same("none is", 0, bench.desk.left());
        });
    }

    private static void waiting(Sentences sentences) {
        sentences.promise(41, "Returns how many texts of a priority wait.", checks -> {
            Bench bench = some();
            checks.same("an ANSWER", "0 1 0", bench.waiting());
            bench.desk.tick(1);
            checks.same("it is being spoken", "0 0 0", bench.waiting());
            checks.same("twenty-one ALERTs", 21, Bench.twentyOneAlerts().desk.waiting(ALERT));
        });
        sentences.promise(41, "- `priority`: NEWS to ALERT", checks -> {
            BrailleDesk desk = new BrailleDesk();
            checks.same("NEWS", 0, desk.waiting(0));
            checks.same("ANSWER", 0, desk.waiting(1));
            checks.same("ALERT", 0, desk.waiting(2));
        });
        sentences.promise(41, "Throws `IllegalArgumentException` if priority is out of range", checks -> {
            for (int priority : new int[] {-1, 3, Integer.MIN_VALUE, Integer.MAX_VALUE}) {
                checks.refused("priority " + priority, "IllegalArgumentException", PromisesOfSpeech::some,
                        desk -> desk.waiting(priority));
            }
        });
    }

    /** Of the words "group" so many times, all are spoken; the last character is a p. */
    private static Bench groups(int times) {
        Bench bench = new Bench();
        for (int i = 0; i < times; i++) {
            bench.again();
            bench.desk.tick(5);
        }
        return bench;
    }

    private static void heard(Sentences sentences) {
        sentences.promise(42, "Returns how many characters were spoken so far.", checks -> {
            Bench bench = some();
            checks.same("none", 0, bench.desk.heard());
            bench.desk.tick(1);
            checks.same("one", 1, bench.desk.heard());
            bench.desk.tick(50);
            checks.same("all of a text", 8, bench.desk.heard());
            bench.desk.tick(50);
            checks.same("no more", 8, bench.desk.heard());
            checks.same("more than are kept", 110, groups(22).desk.heard());
        });
        sentences.promise(43, "Returns a character that was spoken.", checks -> {
            Bench bench = some();
            bench.desk.tick(8);
            for (int back = 0; back < 8; back++) {
                checks.same("back " + back, (int) "nottub b".charAt(back), bench.desk.heardAt(back));
            }
        });
        sentences.promise(43, "- `back`: 0 for the last one, up to 99", checks -> {
            for (int times : new int[] {20, 21, 25, 41}) {
                BrailleDesk desk = groups(times).desk;
                checks.index("-1", () -> desk.heardAt(-1));
                for (int back : new int[] {0, 1, 50, 98, 99}) {
                    checks.same("back " + back + " of " + 5 * times, (int) "puorg".charAt(back % 5), desk.heardAt(back));
                }
                checks.index("100", () -> desk.heardAt(100));
            }
        });
        sentences.promise(43, "Returns its code.", checks -> {
            Bench bench = new Bench();
            bench.add(0, TEXT, "\uD834\uDDFF~ ");
            bench.next();
            bench.desk.tick(50);
            checks.same("a space", 32, bench.desk.heardAt(0));
            checks.same("a sign", 126, bench.desk.heardAt(1));
            checks.same("a high one", 119295, bench.desk.heardAt(2));
        });
        String words = "Throws `IndexOutOfBoundsException` if back is out of range, or not so many were spoken";
        sentences.promise(43, words, checks -> {
            for (int back : new int[] {-1, 100, Integer.MIN_VALUE, Integer.MAX_VALUE}) {
                checks.refused("back " + back, "IndexOutOfBoundsException", () -> groups(25), desk -> desk.heardAt(back));
            }
            for (int back : new int[] {0, 1, 99}) {
                checks.refused("of none, back " + back, "IndexOutOfBoundsException", PromisesOfSpeech::some,
                        desk -> desk.heardAt(back));
            }
            Bench bench = some();
            bench.desk.tick(2);
            checks.same("the first one of two", (int) 'b', bench.desk.heardAt(1));
            checks.index("not so many", () -> bench.desk.heardAt(2));
            Bench groups = groups(19);
            groups.again();
            groups.desk.tick(4);
            checks.same("the first one of 99", (int) 'g', groups.desk.heardAt(98));
            checks.index("the hundredth of 99", () -> groups.desk.heardAt(99));
            groups.desk.tick(1);
            checks.same("the first one of 100", (int) 'g', groups.desk.heardAt(99));
        });
    }

    private static void droppedAndSwallowed(Sentences sentences) {
        sentences.promise(44, "Returns how many texts were dropped.", checks -> {
            Bench bench = some();
            checks.same("none", 0, bench.desk.dropped());
            bench.again();
            checks.same("one that waited", 1, bench.desk.dropped());
            bench.desk.tick(1);
            bench.hush();
            checks.same("one that was being spoken", 2, bench.desk.dropped());
            bench.hush();
            checks.same("none in silence", 2, bench.desk.dropped());
        });
        sentences.promise(45, "Returns how many texts that regions had kept were swallowed.", checks -> {
            Bench bench = new Bench();
            bench.add(0, LIVE, "");
            bench.add(1, TEXT, "a");
            bench.add(1, TEXT, "b");
            checks.same("none", 0, bench.desk.swallowed());
            bench.add(1, TEXT, "c");
            checks.same("one in place of which another one is kept", 1, bench.desk.swallowed());
            bench.desk.setManner(1, POLITE);
            checks.same("one by setManner", 2, bench.desk.swallowed());
            bench.rename(2, "d");
            bench.desk.remove(1);
            checks.same("one by remove", 3, bench.desk.swallowed());
            checks.same("none was dropped", 0, bench.desk.dropped());
        });
    }
}
