/** Promises 31 to 34: the line, its cells and the offset. */
public final class PinsTest {
    private static final Checks checks = new Checks("PinsTest");
    private static final String[] LETTERS = (
        "1 12 14 145 15 124 1245 125 24 245 13 123 134 1345 135 1234 12345 1235 234 2345 136 1236 2456 1346 13456 1356"
    ).split(" ");

    public static void main(String[] args) {
        letters();
        writing();
        lines();
        contents();
        offsets();
        offsetsElsewhere();
        clippedOffsets();
        asking();
        checks.finish();
    }

    private static void letters() {
        for (int i = 0; i < 26; i++) {
            written("" + (char) ('a' + i), LETTERS[i]);
            written("" + (char) ('A' + i), "6 " + LETTERS[i]);
        }
        for (int digit = 0; digit < 10; digit++) {
            written("" + digit, "3456 " + LETTERS[(digit + 9) % 10]);
        }
        for (int code = 32; code < 127; code++) {
            boolean isAlphanumeric = Character.isLetterOrDigit(code);
            if (!isAlphanumeric && " .,?-".indexOf(code) < 0) {
                written("" + (char) code, "123456");
            }
        }
    }

    private static void writing() {
        written(" ", "0");
        written(".", "256");
        written(",", "2");
        written("?", "236");
        written("-", "36");
        written("\uD834\uDD00", "123456");
        written("a b.c", "1 0 12 256 14");
        written("1a", "3456 1 56 1");
        written("1j", "3456 1 56 245");
        written("1k", "3456 1 13");
        written("1z", "3456 1 1356");
        written("1ab", "3456 1 56 1 12");
        written("1 a", "3456 1 0 1");
        written("1.a", "3456 1 256 1");
        written("1A", "3456 1 6 1");
        written("1K", "3456 1 6 13");
        written("1AB", "3456 1 6 6 1 12");
        written("12", "3456 1 12");
        written("90", "3456 24 245");
        written("1.2", "3456 1 256 3456 12");
        written("1 2", "3456 1 0 3456 12");
        written("a1b2", "1 3456 1 56 12 3456 12");
        written("AB", "6 6 1 12");
        written("ABC", "6 6 1 12 14");
        written("Ab", "6 1 12");
        written("aB", "1 6 12");
        written("ABc", "6 1 6 12 14");
        written("aBC", "1 6 12 6 14");
        written("AbC", "6 1 12 6 14");
        written("A B", "6 1 0 6 12");
        written("AB CD", "6 6 1 12 0 6 6 14 145");
        written("A1B", "6 1 3456 1 6 12");
        written("AB1C", "6 6 1 12 3456 1 6 14");
        written("AB-c", "6 6 1 12 36 14");
        written("a-BC", "1 36 6 6 12 14");
        written("Z", "6 1356");
        written("AZ", "6 6 1 1356");
        written("ZA", "6 6 1356 1");
        written("Az", "6 1 1356");
        written("zA", "1356 6 1");
        written("ABz", "6 1 6 12 1356");
        written("zAB", "1356 6 1 6 12");
        written("AaA", "6 1 1 6 1");
        written("@A[", "123456 6 1 123456");
        written("`z{", "123456 1356 123456");
        written("/0:", "123456 3456 245 123456");
        written("9a0", "3456 24 56 1 3456 245");
    }

    /** The cells of a name, read from the line of a TEXT, which has nothing else. */
    private static void written(String name, String due) {
        Bench bench = new Bench();
        bench.add(0, BrailleDesk.TEXT, name);
        bench.next();
        StringBuilder padded = new StringBuilder(due);
        for (int i = due.split(" ").length; i < 10; i++) {
            padded.append(" 0");
        }
        checks.same("33: \"" + name + "\"", padded.toString(), bench.pins());
        checks.same("34: \"" + name + "\"", padded.toString(), bench.pinsAnew());
        checks.same("32: \"" + name + "\"", due.split(" ").length, bench.desk.lineLength());
    }

    private static void lines() {
        String[] kinds = {"124578", "", "1278", "1478", "1578", "234578", "123578", "12378"};
        for (int kind = 0; kind < 8; kind++) {
            Bench bench = new Bench();
            int parent = kind == BrailleDesk.ROW ? bench.add(0, BrailleDesk.TABLE, "") : 0;
            int element = bench.add(parent, kind, "a");
            while (bench.desk.cursor() != element) {
                bench.next();
            }
            String rest = kind == BrailleDesk.CHECK ? "1 0 36" : "1";
            String due = (kinds[kind] + " " + rest).trim();
            line("kind " + kind, bench, due);
            bench.desk.setRule(element, BrailleDesk.MORE);
            line("MORE, kind " + kind, bench, due);
            bench.desk.setRule(element, BrailleDesk.LESS);
            line("LESS, kind " + kind, bench, rest);
            bench.desk.rename(element);
            line("LESS without a name, kind " + kind, bench, rest.substring(1).trim());
        }
        Bench bench = new Bench();
        bench.add(0, BrailleDesk.CHECK, "b");
        bench.next();
        bench.desk.set(1, true);
        line("on", bench, "1478 12 0 123456");
        bench.act();
        line("off by ACT", bench, "1478 12 0 36");
        bench.desk.setRule(0, BrailleDesk.LESS);
        line("the rule of the parent", bench, "12 0 36");
    }

    private static void line(String what, Bench bench, String due) {
        int length = due.isEmpty() ? 0 : due.split(" ").length;
        StringBuilder padded = new StringBuilder(due);
        for (int i = length; i < 10; i++) {
            padded.append(padded.length() == 0 ? "0" : " 0");
        }
        checks.same("33: line, " + what, padded.toString(), bench.pins());
        checks.same("34: line, " + what, padded.toString(), bench.pinsAnew());
        checks.same("32: line, " + what, length, bench.desk.lineLength());
    }

    private static void contents() {
        Bench bench = new Bench();
        bench.add(0, BrailleDesk.EDIT, "1");
        bench.next();
        line("an EDIT", bench, "1578 3456 1");
        bench.act();
        line("typing", bench, "1578 3456 1 78");
        bench.points("1");
        line("a content is written on its own", bench, "1578 3456 1 0 1 78");
        bench.points("3456");
        bench.points("12");
        line("a digit in it", bench, "1578 3456 1 0 1 3456 12 78");
        bench.points("8");
        line("typing no more", bench, "1578 3456 1 0 1 3456 12");
        bench.act();
        bench.points("7");
        bench.points("7");
        line("no content again", bench, "1578 3456 1 78");
        bench.desk.setRule(1, BrailleDesk.LESS);
        bench.desk.rename(1);
        line("typing by LESS without a name", bench, "78");
        bench.points("13");
        line("a content alone", bench, "0 13 78");
    }

    private static void offsets() {
        Bench bench = new Bench();
        bench.add(0, BrailleDesk.TEXT, "a1b2c3d4e5f6");
        bench.add(0, BrailleDesk.TEXT, "abcdefghij");
        bench.next();
        checks.same("32: a long line", 23, bench.desk.lineLength());
        checks.same("31: at first", 0, bench.desk.offset());
        bench.goLeft();
        checks.same("31: LEFT at 0", 0, bench.desk.offset());
        bench.goRight();
        checks.same("31: RIGHT", 10, bench.desk.offset());
        checks.same("33: from 10 on", "14 56 145 3456 145 56 15 3456 15 56", bench.pins());
        bench.goRight();
        checks.same("31: RIGHT again", 20, bench.desk.offset());
        checks.same("33: beyond the end", "124 3456 124 0 0 0 0 0 0 0", bench.pins());
        checks.same("34: beyond the end", "124 3456 124 0 0 0 0 0 0 0", bench.pinsAnew());
        bench.goRight();
        checks.same("31: RIGHT at the end", 20, bench.desk.offset());
        bench.goLeft();
        checks.same("31: LEFT", 10, bench.desk.offset());
        bench.previous();
        checks.same("31: at another element", 0, bench.desk.offset());
        bench.next();
        checks.same("31: and back", 0, bench.desk.offset());
        bench.goRight();
        bench.next();
        checks.same("31: at the next one", 0, bench.desk.offset());
        checks.same("32: ten cells", 10, bench.desk.lineLength());
        bench.goRight();
        checks.same("31: ten are not below ten", 0, bench.desk.offset());
        checks.same("33: ten cells", "1 12 14 145 15 124 1245 125 24 245", bench.pins());
        bench.rename(2, "abcdefghijk");
        bench.goRight();
        checks.same("31: ten are below eleven", 10, bench.desk.offset());
        bench.again();
        bench.next();
        checks.same("31: the cursor stays", 10, bench.desk.offset());
    }

    /** The other elements have lines as long, so that nothing but the move itself makes the offset 0. */
    private static void offsetsElsewhere() {
        String[] going = {"4", "1", "2345", "3", "6"};
        for (String points : going) {
            Bench bench = new Bench();
            bench.add(0, BrailleDesk.GROUP, "a1b2c3d4e5f6");
            bench.add(1, BrailleDesk.GROUP, "a1b2c3d4e5f6");
            bench.add(2, BrailleDesk.BUTTON, "a1b2c3d4e5f6");
            bench.next();
            bench.next();
            bench.goRight();
            checks.same("31: ahead of " + points, 10, bench.desk.offset());
            bench.command(points);
            checks.same("31: by " + points, 0, bench.desk.offset());
        }
        Bench bench = new Bench();
        bench.add(0, BrailleDesk.TEXT, "a1b2c3d4e5f6");
        bench.add(0, BrailleDesk.BUTTON, "a1b2c3d4e5f6");
        bench.add(0, BrailleDesk.TEXT, "a1b2c3d4e5f6");
        bench.next();
        bench.goRight();
        bench.points("12");
        checks.same("28: by a letter", 2, bench.desk.cursor());
        checks.same("31: by a letter", 0, bench.desk.offset());
        bench.goRight();
        bench.desk.remove(2);
        checks.same("31: lost to a long line", 0, bench.desk.offset());
        checks.same("33: lost to a long line", "1 3456 1 56 12 3456 12 56 14 3456", bench.pins());
    }

    private static void clippedOffsets() {
        Bench bench = new Bench();
        bench.add(0, BrailleDesk.TEXT, "a1b2c3d4e5f6");
        bench.next();
        bench.goRight();
        bench.goRight();
        bench.rename(1, "a1b2c3d4e5f");
        checks.same("32: a cell above 20", 21, bench.desk.lineLength());
        checks.same("31: 20 are below 21", 20, bench.desk.offset());
        bench.rename(1, "a1b2c3d4e5k");
        checks.same("32: 20", 20, bench.desk.lineLength());
        checks.same("31: 20 are not below 20", 10, bench.desk.offset());
        bench.rename(1, "abcdefghij");
        checks.same("31: 10 are not below 10", 0, bench.desk.offset());
        bench.rename(1, "a1b2c3d4e5f6");
        bench.goRight();
        bench.goRight();
        bench.rename(1, "abcdefghijk");
        checks.same("31: 10 are below 11, 20 are not", 10, bench.desk.offset());
        bench.rename(1, "a1b2c3d4e5f6");
        bench.goRight();
        bench.goRight();
        bench.desk.rename(1);
        checks.same("32: no cell", 0, bench.desk.lineLength());
        checks.same("31: none is below 0", 0, bench.desk.offset());
        checks.same("33: no cell", "0 0 0 0 0 0 0 0 0 0", bench.pins());
        ruledOffset();
        typedOffset();
    }

    private static void ruledOffset() {
        Bench bench = new Bench();
        bench.add(0, BrailleDesk.BUTTON, "abcdefghij");
        bench.next();
        bench.goRight();
        checks.same("31: with the kind", 10, bench.desk.offset());
        bench.desk.setRule(0, BrailleDesk.LESS);
        checks.same("31: without the kind", 0, bench.desk.offset());
        checks.same("33: without the kind", "1 12 14 145 15 124 1245 125 24 245", bench.pins());
    }

    private static void typedOffset() {
        Bench bench = new Bench();
        bench.add(0, BrailleDesk.EDIT, "abcdefghi");
        bench.tab();
        bench.act();
        bench.goRight();
        checks.same("31: at the typing", 10, bench.desk.offset());
        bench.tab();
        checks.same("31: TAB to the same, and typing ends", 0, bench.desk.offset());
        bench.act();
        bench.goRight();
        bench.points("1");
        bench.tab();
        checks.same("31: TAB to the same, and the content is there", 10, bench.desk.offset());
        bench.act();
        bench.points("7");
        checks.same("31: the content is gone", 10, bench.desk.offset());
        bench.points("8");
        checks.same("31: typing ends by 8", 0, bench.desk.offset());
        bench.act();
        bench.goRight();
        bench.add(0, BrailleDesk.TEXT, "behind");
        bench.desk.remove(1);
        checks.same("31: lost", 0, bench.desk.offset());
        checks.same("33: lost", "12 15 125 24 1345 145 0 0 0 0", bench.pins());
    }

    private static void asking() {
        BrailleDesk desk = new BrailleDesk();
        for (int none : new int[] {-1, 10, Integer.MAX_VALUE, Integer.MIN_VALUE}) {
            checks.index("33: pin " + none, () -> desk.pin(none));
            checks.index("34: pinAnew " + none, () -> desk.pinAnew(none));
        }
        checks.same("33: the last pin", 0, desk.pin(9));
        checks.same("34: the last pin", 0, desk.pinAnew(9));
        checks.same("34: the first pin", 219, desk.pinAnew(0));
    }
}
