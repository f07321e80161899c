import java.util.StringJoiner;

/** A desk with hands: names and words as texts, keys by their points. */
final class Bench {
    final BrailleDesk desk = new BrailleDesk();
    private int made = 1;

    void draft(String name) {
        name.codePoints().forEach(desk::draft);
    }

    /** Adds an element behind the other children of its parent. */
    int add(int parent, int kind, String name) {
        return addAt(parent, desk.children(parent), kind, name);
    }

    int addAt(int parent, int place, int kind, String name) {
        draft(name);
        int number = desk.add(parent, place, kind);
        made++;
        return number;
    }

    int rename(int element, String name) {
        draft(name);
        return desk.rename(element);
    }

    /** The keys of some points: "145" is 25. */
    static int keys(String points) {
        int keys = 0;
        for (char point : points.toCharArray()) {
            keys |= 1 << (point - '1');
        }
        return keys;
    }

    /** A chord without the space. */
    int points(String points) {
        return desk.chord(keys(points));
    }

    /** A chord with the space. */
    int command(String points) {
        return desk.chord(256 | keys(points));
    }

    int space() {
        return desk.chord(256);
    }

    int previous() {
        return command("1");
    }

    int next() {
        return command("4");
    }

    int out() {
        return command("3");
    }

    int in() {
        return command("6");
    }

    int up() {
        return command("2");
    }

    int down() {
        return command("5");
    }

    int tab() {
        return command("2345");
    }

    int act() {
        return command("8");
    }

    int hush() {
        return command("7");
    }

    int goLeft() {
        return command("123");
    }

    int goRight() {
        return command("456");
    }

    int again() {
        return command("1235");
    }

    String name(int element) {
        StringBuilder name = new StringBuilder();
        for (int i = 0; i < desk.nameLength(element); i++) {
            name.appendCodePoint(desk.nameAt(element, i));
        }
        return name.toString();
    }

    String content(int element) {
        StringBuilder content = new StringBuilder();
        for (int i = 0; i < desk.contentLength(element); i++) {
            content.appendCodePoint(desk.contentAt(element, i));
        }
        return content.toString();
    }

    String words(int element) {
        StringBuilder words = new StringBuilder();
        for (int i = 0; i < desk.wordsLength(element); i++) {
            words.appendCodePoint(desk.wordsAt(element, i));
        }
        return words.toString();
    }

    /** What the ten pins show, as points: "12 0 78" is three cells, the second one empty. */
    String pins() {
        StringJoiner cells = new StringJoiner(" ");
        for (int i = 0; i < 10; i++) {
            cells.add(cell(desk.pin(i)));
        }
        return cells.toString();
    }

    String pinsAnew() {
        StringJoiner cells = new StringJoiner(" ");
        for (int i = 0; i < 10; i++) {
            cells.add(cell(desk.pinAnew(i)));
        }
        return cells.toString();
    }

    private static String cell(int cell) {
        return cell == 0 ? "0" : points(cell);
    }

    /** The points of a cell, or of the keys for points. */
    static String points(int cell) {
        StringBuilder points = new StringBuilder();
        for (int i = 0; i < 8; i++) {
            if ((cell & 1 << i) != 0) {
                points.append(i + 1);
            }
        }
        return points.toString();
    }

    /** Lets ticks pass, and tells what is spoken in them. */
    String listen(int ticks) {
        StringBuilder heard = new StringBuilder();
        int count = desk.tick(ticks);
        for (int back = count - 1; back >= 0; back--) {
            heard.appendCodePoint(desk.heardAt(back));
        }
        return heard.toString();
    }

    /** What is spoken by this alone: what was to be spoken ahead of it is let through first. */
    String told(Runnable act) {
        desk.tick(50);
        desk.tick(50);
        act.run();
        return listen(50);
    }

    String children(int element) {
        StringJoiner numbers = new StringJoiner(" ");
        for (int i = 0; i < desk.children(element); i++) {
            numbers.add("" + desk.childAt(element, i));
        }
        return numbers.toString();
    }

    String order() {
        StringJoiner numbers = new StringJoiner(" ");
        for (int i = 0; i < desk.reading(); i++) {
            numbers.add("" + desk.readingAt(i));
        }
        return numbers.toString();
    }

    String waiting() {
        return desk.waiting(0) + " " + desk.waiting(1) + " " + desk.waiting(2);
    }

    /** All that can be asked, and, by letting things happen, what can't: keys, draft, texts. */
    String state() {
        StringJoiner state = new StringJoiner("; ");
        for (int i = 0; i < made; i++) {
            state.add(elementState(i));
        }
        state.add(desk.elements() + " there").add(order()).add(pins()).add(desk.offset() + " of " + desk.lineLength());
        state.add("cursor " + desk.cursor()).add("focus " + desk.focus()).add("typing " + desk.isTyping());
        state.add("waiting " + waiting()).add("speaking " + desk.speaking() + " " + desk.left());
        state.add("dropped " + desk.dropped()).add("swallowed " + desk.swallowed());
        state.add("heard " + desk.heard() + " at " + desk.time());
        state.add("will be heard " + untilSilence());
        for (int key = 0; key < 9; key++) {
            int pressed = key;
            state.add("key " + Checks.answer(() -> desk.release(pressed)));
        }
        state.add("then the cursor is at " + desk.cursor()).add("a is typed " + points("1"));
        if (desk.isTyping()) {
            state.add("to " + content(desk.focus()));
        }
        state.add("draft has " + Checks.answer(() -> desk.draft('z')));
        desk.tick(50);
        state.add("made " + Checks.answer(() -> desk.add(0, 0, BrailleDesk.TEXT)));
        state.add("draft " + Checks.answer(() -> name(desk.childAt(0, 0))));
        return state.toString();
    }

    /** How much is spoken in each of some ticks, and the last hundred characters of that. */
    private String untilSilence() {
        StringJoiner heard = new StringJoiner(" ");
        for (int i = 0; i < 6; i++) {
            heard.add("" + desk.tick(50)).add(waiting());
        }
        for (int back = 0; back < 100 && back < desk.heard(); back++) {
            heard.add("" + desk.heardAt(back));
        }
        return heard.toString();
    }

    /** A LOUD region 1 with a CHECK 2, by which so many ALERTs wait, and a draft. */
    static Bench alerts(int count) {
        Bench bench = new Bench();
        bench.add(0, BrailleDesk.LIVE, "l");
        bench.desk.setManner(1, BrailleDesk.QUIET);
        bench.add(1, BrailleDesk.CHECK, "c");
        bench.desk.setManner(1, BrailleDesk.LOUD);
        bench.desk.setRule(1, BrailleDesk.LESS);
        for (int i = 0; i < count; i++) {
            bench.rename(2, i % 2 == 0 ? "d" : "c");
        }
        bench.draft("xy");
        return bench;
    }

    static Bench twentyAlerts() {
        return alerts(20);
    }

    /** By the last call two came, of the region and for the cursor. */
    static Bench twentyOneAlerts() {
        Bench bench = alerts(19);
        bench.tab();
        bench.desk.hide(2, true);
        return bench;
    }

    private String elementState(int element) {
        if (Checks.answer(() -> desk.kind(element)) instanceof String) {
            return element + " is gone";
        }
        StringJoiner state = new StringJoiner(",", element + "(", ")");
        state.add("" + desk.kind(element)).add("" + desk.parent(element)).add(children(element));
        state.add(name(element)).add(content(element)).add("" + desk.isOn(element)).add("" + desk.presses(element));
        state.add("" + desk.isShown(element)).add("" + desk.level(element));
        return state.toString();
    }
}
