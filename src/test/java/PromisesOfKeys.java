/** The sentences of the promises 25 to 34. */
final class PromisesOfKeys extends Constants {
    private static final String KEY = "- `key`: 0 to 8";
    private static final String NO_KEY = "Throws `IndexOutOfBoundsException` if there is no such key";
    private static final String PLACE = "- `place`: 0 to 9";
    private static final String NO_PLACE = "Throws `IndexOutOfBoundsException` if place is out of range";
    private static final int[] NO_KEYS = {-1, 9, Integer.MIN_VALUE, Integer.MAX_VALUE};
    private static final int[] NO_PINS = {-1, 10, Integer.MIN_VALUE, Integer.MAX_VALUE};

    private PromisesOfKeys() {
    }

    static void all(Sentences sentences) {
        press(sentences);
        release(sentences);
        chord(sentences);
        cursorAndFocus(sentences);
        offsetAndLine(sentences);
        pins(sentences);
    }

    /** The keys for 4 and the space are pressed, NEXT when they are released; one has been released. */
    private static Bench pressing() {
        Bench bench = new Bench();
        bench.add(0, TEXT, "a");
        bench.add(0, TEXT, "b");
        bench.desk.press(3);
        bench.desk.press(8);
        bench.desk.release(3);
        return bench;
    }

    private static void press(Sentences sentences) {
        sentences.promise(25, "Presses a key.", checks -> {
            Bench bench = pressing();
            bench.desk.release(8);
            checks.same("the chord that was pressed", 1, bench.desk.cursor());
        });
        sentences.promise(25, KEY, checks -> {
            BrailleDesk desk = new BrailleDesk();
            for (int key = 0; key <= 8; key++) {
                int pressed = key;
                checks.same("key " + key, key + 1, Checks.answer(() -> desk.press(pressed)));
            }
            checks.index("key -1", () -> desk.press(-1));
            checks.index("key 9", () -> desk.press(9));
        });
        sentences.promise(25, "Returns how many keys are pressed then.", checks -> {
            BrailleDesk desk = new BrailleDesk();
            checks.same("the first one", 1, desk.press(8));
            checks.same("the second one", 2, desk.press(0));
            desk.release(8);
            checks.same("behind a release", 2, desk.press(8));
            desk.release(0);
            desk.release(8);
            checks.same("when all were released", 1, desk.press(8));
        });
        sentences.promise(25, NO_KEY, checks -> {
            for (int key : NO_KEYS) {
                checks.refused("key " + key, "IndexOutOfBoundsException", PromisesOfKeys::pressing,
                        desk -> desk.press(key));
            }
        });
        sentences.promise(25, "Throws `IllegalStateException` if it is pressed", checks -> {
            checks.refused("pressed", "IllegalStateException", PromisesOfKeys::pressing, desk -> desk.press(8));
            checks.same("released meanwhile", 2, pressing().desk.press(3));
            checks.same("never pressed", 2, pressing().desk.press(0));
        });
    }

    private static void release(Sentences sentences) {
        sentences.promise(26, "Releases a key.", checks -> {
            Bench bench = pressing();
            bench.desk.release(8);
            checks.same("it can be pressed again", 1, bench.desk.press(8));
        });
        sentences.promise(26, KEY, checks -> {
            BrailleDesk desk = new BrailleDesk();
            for (int key = 0; key <= 8; key++) {
                desk.press(key);
            }
            for (int key = 0; key <= 8; key++) {
                int released = key;
                checks.same("key " + key, 8 - key, Checks.answer(() -> desk.release(released)));
            }
        });
        sentences.promise(26, "Returns how many keys are pressed then.", checks -> {
            Bench bench = pressing();
            bench.desk.press(0);
            checks.same("of two", 1, bench.desk.release(0));
            checks.same("of one", 0, bench.desk.release(8));
        });
        sentences.promise(26, NO_KEY, checks -> {
            for (int key : NO_KEYS) {
                checks.refused("key " + key, "IndexOutOfBoundsException", PromisesOfKeys::pressing,
                        desk -> desk.release(key));
            }
        });
        sentences.promise(26, "Throws `IllegalStateException` if it is not pressed", checks -> {
            checks.refused("released", "IllegalStateException", PromisesOfKeys::pressing, desk -> desk.release(3));
            checks.refused("never pressed", "IllegalStateException", PromisesOfKeys::pressing, desk -> desk.release(0));
            checks.state("while none is", () -> new BrailleDesk().release(8));
            checks.same("pressed", 0, pressing().desk.release(8));
        });
    }

    private static void chord(Sentences sentences) {
        sentences.promise(27, "Presses some keys, and releases them all.", checks -> {
            Bench bench = new Bench();
            bench.add(0, TEXT, "a");
            bench.desk.chord(256 + 8);
            checks.same("as by press and release", 1, bench.desk.cursor());
            checks.same("none is pressed then", 1, bench.desk.press(3));
        });
        sentences.promise(27, "- `keys`: 1 to 511: the key k counts 2 to the power of k", checks -> {
            BrailleDesk desk = new BrailleDesk();
            checks.argument("0", () -> desk.chord(0));
            checks.same("1", 0, Checks.answer(() -> desk.chord(1)));
            checks.same("511", 0, Checks.answer(() -> desk.chord(511)));
            checks.argument("512", () -> desk.chord(512));
            Bench bench = new Bench();
            bench.add(0, EDIT, "");
            bench.next();
            bench.act();
            int[] chords = {1, 2, 3, 4 + 32, 256};
            for (int keys : chords) {
                bench.desk.chord(keys);
            }
            checks.same("point 1, point 2, points 1 and 2, points 3 and 6, the space", "a,b- ", bench.content(1));
        });
        sentences.promise(27, "Returns the element at the cursor then.", checks -> {
            Bench bench = new Bench();
            bench.add(0, TEXT, "a");
            checks.same("it stays", 0, bench.desk.chord(256 + 1));
            checks.same("it goes", 1, bench.desk.chord(256 + 8));
            checks.same("it stays", 1, bench.desk.chord(256 + 8));
        });
        sentences.promise(27, "Throws `IllegalArgumentException` if keys is out of range", checks -> {
            for (int keys : new int[] {0, 512, -1, 1024, Integer.MIN_VALUE, Integer.MAX_VALUE}) {
                checks.refused("keys " + keys, "IllegalArgumentException", Bench::twentyAlerts, desk -> desk.chord(keys));
                checks.refused("and a key is pressed, keys " + keys, "IllegalArgumentException",
                        PromisesOfKeys::pressing, desk -> desk.chord(keys));
            }
        });
        sentences.promise(27, "Throws `IllegalStateException` if a key is pressed", checks -> {
            checks.refused("another one", "IllegalStateException", PromisesOfKeys::pressing, desk -> desk.chord(1));
            checks.refused("the same one", "IllegalStateException", PromisesOfKeys::pressing, desk -> desk.chord(264));
            checks.refused("all", "IllegalStateException", PromisesOfKeys::pressing, desk -> desk.chord(511));
            Bench bench = pressing();
            bench.desk.release(8);
            checks.same("none", 2, bench.desk.chord(264));
        });
    }

    private static void cursorAndFocus(Sentences sentences) {
        sentences.promise(28, "Returns the element at the cursor.", checks -> {
            Bench bench = new Bench();
            checks.same("at first", 0, bench.desk.cursor());
            for (int i = 1; i < 40; i++) {
                bench.desk.add(i - 1, 0, GROUP);
            }
            for (int i = 1; i < 40; i++) {
                bench.next();
            }
            checks.same("the last one of all", 39, bench.desk.cursor());
            bench.desk.remove(1);
            checks.same("when it is gone", 0, bench.desk.cursor());
        });
        sentences.promise(29, "Returns the element with the focus; NONE if it is nowhere.", checks -> {
            Bench bench = new Bench();
            bench.add(0, BUTTON, "b");
            checks.same("at first", NONE, bench.desk.focus());
            bench.tab();
            checks.same("by TAB", 1, bench.desk.focus());
            bench.previous();
            checks.same("it stays when the cursor goes", 1, bench.desk.focus());
            bench.desk.remove(1);
            checks.same("when it is gone", NONE, bench.desk.focus());
        });
        sentences.promise(30, "Tells whether one types.", checks -> {
            Bench bench = new Bench();
            bench.add(0, EDIT, "e");
            checks.same("at first", false, bench.desk.isTyping());
            bench.tab();
            checks.same("with the focus alone", false, bench.desk.isTyping());
            bench.act();
            checks.same("behind ACT", true, bench.desk.isTyping());
            bench.points("8");
            checks.same("behind the point 8", false, bench.desk.isTyping());
        });
    }

    private static Bench text(String name) {
        Bench bench = new Bench();
        bench.add(0, TEXT, name);
        bench.next();
        return bench;
    }

    private static void offsetAndLine(Sentences sentences) {
        sentences.promise(31, "Returns the offset.", checks -> {
            Bench bench = text("A1A1A1A1A1A1");
            checks.same("at first", 0, bench.desk.offset());
            bench.goRight();
            checks.same("once to the right", 10, bench.desk.offset());
            bench.goRight();
            checks.same("twice", 20, bench.desk.offset());
            bench.goLeft();
            checks.same("to the left", 10, bench.desk.offset());
        });
        sentences.promise(32, "Returns how many cells the line of the element at the cursor has.", checks -> {
            checks.same("the screen", 1, new BrailleDesk().lineLength());
            checks.same("none", 0, text("").desk.lineLength());
            checks.same("one", 1, text("a").desk.lineLength());
            checks.same("twelve", 12, text("abcdefghijkl").desk.lineLength());
            Bench bench = text("A1A1A1A1A1A1");
            checks.same("twenty-four", 24, bench.desk.lineLength());
            bench.goRight();
            checks.same("whatever the offset is", 24, bench.desk.lineLength());
        });
        sentences.promise(32, "Returns how many cells the line of the element at the cursor has.", checks -> {
            Bench bench = new Bench();
            bench.add(0, EDIT, "A1A1A1A1A1A1");
            bench.next();
            bench.act();
            for (int i = 0; i < 6; i++) {
                bench.points("6");
                bench.points("1");
                bench.points("3456");
                bench.points("1");
            }
            checks.same("the longest line that can be", 1 + 24 + 1 + 24 + 1, bench.desk.lineLength());
            for (int i = 0; i < 6; i++) {
                bench.goRight();
            }
            checks.same("its last offset", 50, bench.desk.offset());
            checks.same("its last cell", 192, bench.desk.pin(0));
            checks.same("behind its end", 0, bench.desk.pin(1));
        });
    }

    private static Bench long12() {
        return text("abcdefghijkl");
    }

    private static void pins(Sentences sentences) {
        sentences.promise(33, "Returns what a pin shows, from the line that is kept.", checks -> {
            Bench bench = text("ab");
            checks.same("the first cell", 1, bench.desk.pin(0));
            checks.same("the second cell", 3, bench.desk.pin(1));
            checks.same("behind the end", 0, bench.desk.pin(2));
            bench.rename(1, "b");
            checks.same("of another name", 3, bench.desk.pin(0));
        });
        sentences.promise(34, "Returns the same, with the line made anew from the tree.", checks -> {
            Bench bench = text("ab");
            checks.same("the first cell", 1, bench.desk.pinAnew(0));
            checks.same("behind the end", 0, bench.desk.pinAnew(2));
            bench.rename(1, "A1A1A1A1A1A1");
            bench.goRight();
            for (int place = 0; place < 10; place++) {
                checks.same("pin " + place, bench.desk.pin(place), bench.desk.pinAnew(place));
            }
        });
        sentences.promise(33, PLACE, checks -> {
            checks.same("pin 0", 1, long12().desk.pin(0));
            checks.same("pin 9", 26, long12().desk.pin(9));
        });
        sentences.promise(34, PLACE, checks -> {
            checks.same("pin 0", 1, long12().desk.pinAnew(0));
            checks.same("pin 9", 26, long12().desk.pinAnew(9));
        });
        sentences.promise(33, "Returns the cell, 0 to 255.", checks -> {
            checks.same("no point", 0, text(" ").desk.pin(0));
            checks.same("the points 2345 and 78", 222, table().desk.pin(0));
        });
        sentences.promise(34, "Returns the cell, 0 to 255.", checks -> {
            checks.same("no point", 0, text(" ").desk.pinAnew(0));
            checks.same("the points 2345 and 78", 222, table().desk.pinAnew(0));
        });
        sentences.promise(33, NO_PLACE, checks -> {
            for (int place : NO_PINS) {
                checks.refused("place " + place, "IndexOutOfBoundsException", PromisesOfKeys::long12,
                        desk -> desk.pin(place));
            }
        });
        sentences.promise(34, NO_PLACE, checks -> {
            for (int place : NO_PINS) {
                checks.refused("place " + place, "IndexOutOfBoundsException", PromisesOfKeys::long12,
                        desk -> desk.pinAnew(place));
            }
        });
    }

    private static Bench table() {
        Bench bench = new Bench();
        bench.add(0, TABLE, "");
        bench.next();
        return bench;
    }
}
