import java.util.ArrayDeque;
import java.util.ArrayList;
import java.util.Deque;
import java.util.List;
import java.util.Map;
import java.util.TreeMap;
import java.util.stream.Collectors;
import java.util.stream.IntStream;
import java.util.stream.Stream;

/**
 * The document once more, in the plainest Java and with its library: nothing is kept that can be told from
 * something else, texts are Strings. ModelTest compares the two.
 */
final class ModelDesk {
    private static final String[] WORDS = {"group", "", "button", "check", "edit", "table", "row", "live"};
    private static final List<String> LETTERS = List.of((
        "1 12 14 145 15 124 1245 125 24 245 13 123 134 1345 135 1234 12345 1235 234 2345 136 1236 2456 1346 13456 1356"
    ).split(" "));
    private static final Map<String, String> SIGNS = Map.of(".", "256", ",", "2", "?", "236", "-", "36", " ", "");

    private static final class Node {
        int number;
        int kind;
        Node parent;
        final List<Node> children = new ArrayList<>();
        String name = "";
        String content = "";
        boolean isHidden;
        boolean isOn;
        int presses;
        int rule = -1;
        int manner = 1;
        String kept;
        Integer toldAt;
    }

    private static final class Speech {
        final int priority;
        final String text;
        int next;

        Speech(int priority, String text) {
            this.priority = priority;
            this.text = text;
        }
    }

    private final Map<Integer, Node> nodes = new TreeMap<>();
    private int made;
    private String draft = "";
    private Node cursor;
    private Node focus;
    private boolean typing;
    private boolean capital;
    private boolean numbers;
    private int offset;
    private final List<Integer> down = new ArrayList<>();
    private final List<Integer> chord = new ArrayList<>();
    private final Map<Integer, Deque<Speech>> queues =
            new TreeMap<>(Map.of(0, new ArrayDeque<>(), 1, new ArrayDeque<>(), 2, new ArrayDeque<>()));
    private Speech spoken;
    private final List<Integer> heard = new ArrayList<>();
    private int now;
    private int dropped;
    private int swallowed;

    ModelDesk() {
        cursor = new Node();
        nodes.put(0, cursor);
        made = 1;
    }

    // ---- the tree

    int draft(int code) {
        argument(code >= 32 && code <= 126 || code >= 119040 && code <= 119295);
        state(size(draft) < 12);
        draft += Character.toString(code);
        return size(draft);
    }

    int add(int parent, int place, int kind) {
        Node above = node(parent);
        argument(place >= 0 && place <= above.children.size() && kind >= 0 && kind <= 7);
        state(made < 40 && above.children.size() < 10 && allowed(above.kind).contains("" + kind));
        state(queues.get(2).size() < 20);
        Node node = new Node();
        node.number = made++;
        node.kind = kind;
        node.parent = above;
        node.name = takeDraft();
        above.children.add(place, node);
        nodes.put(node.number, node);
        tell(node, isShown(node), () -> words(node));
        return node.number;
    }

    private static String allowed(int kind) {
        return kind == 0 || kind == 7 ? "0123457" : kind == 5 ? "6" : kind == 6 ? "1234" : "";
    }

    private String takeDraft() {
        String taken = draft;
        draft = "";
        return taken;
    }

    int remove(int element) {
        Node node = changeable(element);
        boolean wasShown = isShown(node);
        Node refuge = refuge(node);
        List<Node> gone = nodes.values().stream().filter(each -> isWithin(each, node)).collect(Collectors.toList());
        gone.forEach(this::swallow);
        boolean isCursorLost = gone.contains(cursor);
        boolean isFocusLost = gone.contains(focus);
        nodes.values().removeAll(gone);
        node.parent.children.remove(node);
        tell(node, wasShown, () -> gone(node));
        lose(isCursorLost, isFocusLost, refuge);
        return gone.size();
    }

    boolean hide(int element, boolean isHidden) {
        Node node = changeable(element);
        boolean was = node.isHidden;
        boolean wasShown = isShown(node);
        Node refuge = refuge(node);
        node.isHidden = isHidden;
        if (isHidden && !was) {
            tell(node, wasShown, () -> gone(node));
            lose(!isShown(cursor), focus != null && !isShown(focus), refuge);
        } else if (was && !isHidden) {
            tell(node, isShown(node), () -> words(node));
        }
        return was;
    }

    private void lose(boolean isCursorLost, boolean isFocusLost, Node refuge) {
        if (isCursorLost) {
            come(refuge);
            come(2, parts("lost", words(cursor)));
        }
        if (isFocusLost) {
            focus = null;
            typing = false;
        }
    }

    private static Node refuge(Node node) {
        List<Node> siblings = node.parent.children;
        int place = siblings.indexOf(node);
        Stream<Node> behind = siblings.subList(place + 1, siblings.size()).stream();
        Stream<Node> ahead = IntStream.range(0, place).mapToObj(i -> siblings.get(place - 1 - i));
        return Stream.concat(behind, ahead).filter(each -> !each.isHidden).findFirst().orElse(node.parent);
    }

    int rename(int element) {
        Node node = changeable(element);
        String before = node.name;
        node.name = takeDraft();
        if (!before.equals(node.name)) {
            tell(node, isShown(node), () -> words(node));
        }
        return size(node.name);
    }

    private Node changeable(int element) {
        Node node = node(element);
        state(node.parent != null && queues.get(2).size() < 20);
        return node;
    }

    boolean set(int element, boolean isOn) {
        Node node = node(element);
        state(node.kind == 3 && queues.get(2).size() < 20);
        boolean was = node.isOn;
        node.isOn = isOn;
        if (was != isOn) {
            tell(node, isShown(node), () -> words(node));
        }
        return was;
    }

    int setRule(int element, int level) {
        Node node = node(element);
        argument(level >= -1 && level <= 2);
        int was = node.rule;
        node.rule = level;
        return was;
    }

    int setManner(int element, int manner) {
        Node node = node(element);
        argument(manner >= 0 && manner <= 2);
        state(node.kind == 7);
        int was = node.manner;
        node.manner = manner;
        swallow(node);
        return was;
    }

    int elements() {
        return nodes.size();
    }

    int kind(int element) {
        return node(element).kind;
    }

    int parent(int element) {
        Node node = node(element);
        return node.parent == null ? -1 : node.parent.number;
    }

    int children(int element) {
        return node(element).children.size();
    }

    int childAt(int element, int place) {
        Node node = node(element);
        index(place >= 0 && place < node.children.size());
        return node.children.get(place).number;
    }

    int nameLength(int element) {
        return size(node(element).name);
    }

    int nameAt(int element, int index) {
        return codeAt(node(element).name, index);
    }

    int contentLength(int element) {
        return size(node(element).content);
    }

    int contentAt(int element, int index) {
        return codeAt(node(element).content, index);
    }

    boolean isOn(int element) {
        return node(element).isOn;
    }

    int presses(int element) {
        return node(element).presses;
    }

    boolean isShown(int element) {
        return isShown(node(element));
    }

    int level(int element) {
        return level(node(element));
    }

    int reading() {
        return order().size();
    }

    int readingAt(int place) {
        index(place >= 0 && place < order().size());
        return order().get(place).number;
    }

    private Node node(int element) {
        index(nodes.containsKey(element));
        return nodes.get(element);
    }

    private static boolean isShown(Node node) {
        return !node.isHidden && (node.parent == null || isShown(node.parent));
    }

    private static boolean isWithin(Node node, Node above) {
        return node == above || node.parent != null && isWithin(node.parent, above);
    }

    private static int level(Node node) {
        return node.rule >= 0 ? node.rule : node.parent == null ? 1 : level(node.parent);
    }

    private List<Node> order() {
        return below(nodes.get(0)).collect(Collectors.toList());
    }

    private static Stream<Node> below(Node node) {
        return node.isHidden ? Stream.of()
                : Stream.concat(Stream.of(node), node.children.stream().flatMap(ModelDesk::below));
    }

    private static String words(Node node) {
        int level = level(node);
        List<Node> shown = node.parent == null ? List.of()
                : node.parent.children.stream().filter(each -> !each.isHidden).collect(Collectors.toList());
        return parts(node.name, level != 0 || node.name.isEmpty() ? WORDS[node.kind] : "",
                node.kind == 3 ? node.isOn ? "on" : "off" : "", node.content,
                level == 2 && node.parent != null ? shown.indexOf(node) + 1 + " of " + shown.size() : "");
    }

    private static String gone(Node node) {
        return parts("gone", node.name.isEmpty() ? WORDS[node.kind] : node.name);
    }

    private static String parts(String... parts) {
        return Stream.of(parts).filter(part -> !part.isEmpty()).collect(Collectors.joining(" "));
    }

    // ---- keys

    int press(int key) {
        index(key >= 0 && key <= 8);
        state(!down.contains(key));
        if (down.isEmpty()) {
            chord.clear();
        }
        down.add(key);
        chord.add(key);
        return down.size();
    }

    int release(int key) {
        index(key >= 0 && key <= 8);
        state(down.contains(key));
        down.remove((Integer) key);
        if (down.isEmpty()) {
            String points = chord.stream().filter(each -> each < 8).distinct().sorted().map(each -> "" + (each + 1))
                    .collect(Collectors.joining());
            done(chord.contains(8), points);
        }
        return down.size();
    }

    int chord(int keys) {
        argument(keys >= 1 && keys <= 511);
        state(down.isEmpty());
        List<Integer> all = IntStream.range(0, 9).filter(key -> (keys >> key) % 2 == 1).boxed()
                .collect(Collectors.toList());
        all.forEach(this::press);
        all.forEach(this::release);
        return cursor.number;
    }

    private void done(boolean isSpace, String points) {
        if (isSpace && !points.isEmpty()) {
            command(points);
        } else if (typing) {
            type(points);
        } else {
            int letter = LETTERS.indexOf(points);
            for (int kind = 0; letter >= 0 && kind < 8; kind++) {
                if (WORDS[kind].startsWith("" + (char) ('a' + letter))) {
                    int wanted = kind;
                    go(first(behind(), each -> each.kind == wanted), "none");
                }
            }
        }
    }

    private List<Node> behind() {
        List<Node> order = order();
        return order.subList(order.indexOf(cursor) + 1, order.size());
    }

    private static Node first(List<Node> nodes, java.util.function.Predicate<Node> test) {
        return nodes.stream().filter(test).findFirst().orElse(null);
    }

    private void command(String points) {
        List<Node> order = order();
        int place = order.indexOf(cursor);
        boolean isInRow = cursor.parent != null && cursor.parent.kind == 6;
        switch (points) {
            case "1" -> go(place > 0 ? order.get(place - 1) : null, "end");
            case "4" -> go(place + 1 < order.size() ? order.get(place + 1) : null, "end");
            case "3" -> go(cursor.parent, "none");
            case "6" -> go(first(cursor.children, each -> !each.isHidden), "none");
            case "2" -> go(isInRow ? inOtherRow(true) : null, isInRow ? "end" : "none");
            case "5" -> go(isInRow ? inOtherRow(false) : null, isInRow ? "end" : "none");
            case "2345" -> tab(order);
            case "8" -> act();
            case "7" -> hush();
            case "123" -> offset = Math.max(0, offset - 10);
            case "456" -> offset = offset + 10 < line().size() ? offset + 10 : offset;
            case "1235" -> come(1, words(cursor));
            default -> { }
        }
    }

    private Node inOtherRow(boolean isUp) {
        List<Node> rows = new ArrayList<>(cursor.parent.parent.children);
        if (isUp) {
            java.util.Collections.reverse(rows);
        }
        int place = cursor.parent.children.indexOf(cursor);
        Node row = first(rows.subList(rows.indexOf(cursor.parent) + 1, rows.size()), each -> !each.isHidden
                && each.children.size() > place && !each.children.get(place).isHidden);
        return row == null ? null : row.children.get(place);
    }

    private void tab(List<Node> order) {
        Node next = first(behind(), ModelDesk::canHaveFocus);
        Node to = next != null ? next : first(order, ModelDesk::canHaveFocus);
        focus = to != null ? to : focus;
        go(to, "none");
    }

    private static boolean canHaveFocus(Node node) {
        return node.kind >= 2 && node.kind <= 4;
    }

    private void go(Node to, String otherwise) {
        if (to == null) {
            come(1, otherwise);
            return;
        }
        String heads = heads(cursor, to);
        typing = false;
        come(to);
        come(1, parts(heads, words(to)));
    }

    private void come(Node to) {
        offset = to == cursor ? offset : 0;
        cursor = to;
    }

    private static String heads(Node from, Node to) {
        if (from == to || from.parent == null || to.parent == null || from.parent.kind != 6 || to.parent.kind != 6
                || from.parent.parent != to.parent.parent || level(to) == 0) {
            return "";
        }
        int place = to.parent.children.indexOf(to);
        Node rowHead = to.parent.children.get(0);
        List<Node> top = to.parent.parent.children.get(0).children;
        Node columnHead = place < top.size() ? top.get(place) : to;
        boolean isOtherRow = from.parent != to.parent;
        boolean isOtherPlace = from.parent.children.indexOf(from) != place;
        return parts(isOtherRow && rowHead != to ? rowHead.name : "",
                isOtherPlace && columnHead != to ? columnHead.name : "");
    }

    private void act() {
        if (canHaveFocus(cursor)) {
            focus = cursor;
        }
        if (cursor.kind == 2) {
            cursor.presses++;
            come(1, "pressed");
        } else if (cursor.kind == 3) {
            cursor.isOn = !cursor.isOn;
            come(1, cursor.isOn ? "on" : "off");
        } else if (cursor.kind == 4) {
            typing = true;
            capital = false;
            numbers = false;
            come(1, "type");
        } else {
            come(1, "none");
        }
    }

    private void type(String points) {
        if (points.equals("6")) {
            capital = true;
        } else if (points.equals("3456")) {
            numbers = true;
        } else if (points.equals("56")) {
            numbers = false;
        } else if (points.equals("7")) {
            int size = size(cursor.content);
            String last = size == 0 ? "" : cursor.content.substring(size - 1);
            cursor.content = size == 0 ? "" : cursor.content.substring(0, size - 1);
            come(1, size == 0 ? "none" : told(last));
        } else if (points.equals("8")) {
            typing = false;
            come(1, words(cursor));
        } else if (LETTERS.contains(points) || SIGNS.containsValue(points)) {
            typeCharacter(points);
        }
    }

    private void typeCharacter(String points) {
        if (cursor.content.length() == 12) {
            come(1, "full");
            return;
        }
        String typed = SIGNS.keySet().stream().filter(sign -> SIGNS.get(sign).equals(points)).findFirst().orElse("");
        int letter = LETTERS.indexOf(points);
        if (letter >= 0 && letter < 10 && numbers && !capital) {
            typed = "1234567890".substring(letter, letter + 1);
        } else if (letter >= 0) {
            String small = "" + (char) ('a' + letter);
            typed = capital ? small.toUpperCase() : small;
            capital = false;
            numbers = false;
        }
        numbers = numbers && !typed.equals(" ");
        cursor.content += typed;
        come(1, told(typed));
    }

    private static String told(String character) {
        return character.equals(" ") ? "space" : character;
    }

    int cursor() {
        return cursor.number;
    }

    int focus() {
        return focus == null ? -1 : focus.number;
    }

    boolean isTyping() {
        return typing;
    }

    // ---- pins

    /** To be called behind each call. */
    void settle() {
        while (offset > 0 && offset >= line().size()) {
            offset -= 10;
        }
    }

    int offset() {
        return offset;
    }

    int lineLength() {
        return line().size();
    }

    int pin(int place) {
        index(place >= 0 && place < 10);
        List<String> line = line();
        return offset + place < line.size() ? Bench.keys(line.get(offset + place)) : 0;
    }

    private List<String> line() {
        List<String> cells = new ArrayList<>();
        if (level(cursor) != 0 && cursor.kind != 1) {
            cells.add(LETTERS.get(WORDS[cursor.kind].charAt(0) - 'a') + "78");
        }
        cells.addAll(written(cursor.name));
        if (cursor.kind == 3) {
            cells.addAll(List.of("", cursor.isOn ? "123456" : "36"));
        }
        if (!cursor.content.isEmpty()) {
            cells.add("");
            cells.addAll(written(cursor.content));
        }
        if (typing) {
            cells.add("78");
        }
        return cells;
    }

    /** Rows of letters, rows of digits, and each other character on its own. */
    private static List<String> written(String text) {
        List<String> cells = new ArrayList<>();
        java.util.regex.Matcher rows = java.util.regex.Pattern.compile("[a-zA-Z]+|[0-9]+|.").matcher(text);
        boolean isBehindDigit = false;
        while (rows.find()) {
            String row = rows.group();
            if (row.matches("[A-Z]{2,}")) {
                cells.addAll(List.of("6", "6"));
                row.chars().forEach(letter -> cells.add(LETTERS.get(letter - 'A')));
            } else if (row.matches("[a-zA-Z]+")) {
                if (isBehindDigit && row.matches("[a-j].*")) {
                    cells.add("56");
                }
                for (char letter : row.toCharArray()) {
                    if (letter < 'a') {
                        cells.add("6");
                    }
                    cells.add(LETTERS.get(Character.toLowerCase(letter) - 'a'));
                }
            } else if (row.matches("[0-9]+")) {
                cells.add("3456");
                row.chars().forEach(digit -> cells.add(LETTERS.get("1234567890".indexOf(digit))));
            } else {
                cells.add(SIGNS.getOrDefault(row, "123456"));
            }
            isBehindDigit = row.matches("[0-9]+");
        }
        return cells;
    }

    // ---- words and speech

    int wordsLength(int element) {
        Node node = node(element);
        state(isShown(node));
        return size(words(node));
    }

    int wordsAt(int element, int index) {
        Node node = node(element);
        state(isShown(node));
        return codeAt(words(node), index);
    }

    private void come(int priority, String text) {
        if (text.isEmpty()) {
            return;
        }
        Speech cut = spoken;
        if (cut != null && (cut.priority == 0 && priority > 0 || cut.priority == 1 && priority == 1)) {
            spoken = null;
            dropped++;
        }
        if (cut != null && cut.priority == 1 && priority == 2) {
            spoken = null;
            while (cut.text.charAt(cut.next) != ' ' && cut.next > 0 && cut.text.charAt(cut.next - 1) != ' ') {
                cut.next--;
            }
            queues.get(1).add(cut);
        }
        if (priority == 1) {
            dropped += queues.get(1).size();
            queues.get(1).clear();
        }
        queues.get(priority).add(new Speech(priority, text));
        if (priority == 0 && queues.get(0).size() == 6) {
            queues.get(0).remove();
            dropped++;
        }
    }

    private void hush() {
        dropped += queues.get(0).size() + queues.get(1).size();
        queues.get(0).clear();
        queues.get(1).clear();
        if (spoken != null && spoken.priority < 2) {
            spoken = null;
            dropped++;
        }
    }

    int tick(int ticks) {
        argument(ticks >= 1 && ticks <= 50);
        int before = heard.size();
        for (int i = 0; i < ticks; i++) {
            now++;
            nodes.values().forEach(this::letKeptCome);
            for (int priority = 2; priority >= 0 && spoken == null; priority--) {
                spoken = queues.get(priority).poll();
            }
            if (spoken != null) {
                int code = spoken.text.codePointAt(spoken.next);
                heard.add(code);
                spoken.next += Character.charCount(code);
                spoken = spoken.next == spoken.text.length() ? null : spoken;
            }
        }
        return heard.size() - before;
    }

    int time() {
        return now;
    }

    int speaking() {
        return spoken == null ? -1 : spoken.priority;
    }

    int left() {
        return spoken == null ? 0 : size(spoken.text.substring(spoken.next));
    }

    int waiting(int priority) {
        argument(priority >= 0 && priority <= 2);
        return queues.get(priority).size();
    }

    int heard() {
        return heard.size();
    }

    int heardAt(int back) {
        index(back >= 0 && back <= 99 && back < heard.size());
        return heard.get(heard.size() - 1 - back);
    }

    int dropped() {
        return dropped;
    }

    int swallowed() {
        return swallowed;
    }

    // ---- regions

    private void tell(Node node, boolean isTold, java.util.function.Supplier<String> text) {
        Node region = node.parent;
        while (region != null && region.kind != 7) {
            region = region.parent;
        }
        if (region == null || region.manner == 0 || !isTold || text.get().isEmpty()) {
            return;
        }
        if (region.manner == 2) {
            come(2, text.get());
        } else if (mayTell(region)) {
            tellNews(region, text.get());
        } else {
            swallow(region);
            region.kept = text.get();
        }
    }

    private boolean mayTell(Node region) {
        return region.toldAt == null || now - region.toldAt >= 5;
    }

    private void tellNews(Node region, String text) {
        region.toldAt = now;
        come(0, text);
    }

    private void letKeptCome(Node region) {
        if (region.kept == null || !mayTell(region)) {
            return;
        }
        if (isShown(region)) {
            tellNews(region, region.kept);
            region.kept = null;
        }
        swallow(region);
    }

    private void swallow(Node region) {
        swallowed += region.kept == null ? 0 : 1;
        region.kept = null;
    }

    // ---- help

    private static int size(String text) {
        return text.codePointCount(0, text.length());
    }

    private static int codeAt(String text, int index) {
        index(index >= 0 && index < size(text));
        return text.codePointAt(text.offsetByCodePoints(0, index));
    }

    private static void index(boolean isGood) {
        if (!isGood) {
            throw new IndexOutOfBoundsException();
        }
    }

    private static void argument(boolean isGood) {
        if (!isGood) {
            throw new IllegalArgumentException();
        }
    }

    private static void state(boolean isGood) {
        if (!isGood) {
            throw new IllegalStateException();
        }
    }
}
