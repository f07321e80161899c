import java.util.ArrayList;
import java.util.List;
import java.util.Random;
import java.util.concurrent.Callable;

/** Runs of at most 512 calls by fixed seeds, on a desk and on the model: each answer is the same. */
public final class ModelTest {
    private static final Checks checks = new Checks("ModelTest");
    private static final int RUNS = 4000;
    private static final int MOST_CALLS = 512;
    private static final int[] CHARACTERS = "aabcjkzABCZ0129  .,?-!\uD834\uDD1E".codePoints().toArray();
    private static final int[] COMMANDS = {1, 8, 4, 32, 2, 16, 30, 128, 64, 7, 56, 23};
    private static final int[] LETTERS = {27, 3, 9, 17, 30, 23, 7};
    private static final int[] TYPING = {1, 3, 10, 26, 5, 53, 32, 60, 48, 50, 2, 38, 36, 64, 256};

    private final Random random;
    private final BrailleDesk desk = new BrailleDesk();
    private final ModelDesk model = new ModelDesk();
    private final List<String> calls = new ArrayList<>();
    /** Each run has likings of its own, so that some get far where others do not. */
    private final int[] likings = new int[14];
    private int made = 1;
    private boolean isSame = true;

    private ModelTest(int seed) {
        random = new Random(seed);
        for (int i = 0; i < likings.length; i++) {
            likings[i] = 1 + random.nextInt(10) * random.nextInt(4);
        }
    }

    public static void main(String[] args) {
        int wrong = 0;
        for (int seed = 0; seed < RUNS && wrong < 3; seed++) {
            ModelTest run = new ModelTest(seed);
            run.go();
            checks.same("0: run " + seed, true, run.isSame);
            wrong += run.isSame ? 0 : 1;
        }
        checks.finish();
    }

    private void go() {
        plant();
        while (isSame && calls.size() < MOST_CALLS - 40) {
            change();
            ask();
        }
        while (isSame && calls.size() < MOST_CALLS) {
            query();
        }
    }

    private void same(String call, Callable<?> due, Callable<?> got) {
        if (!isSame || calls.size() >= MOST_CALLS) {
            return;
        }
        Object wanted = Checks.answer(due);
        Object answered = Checks.answer(got);
        model.settle();
        calls.add(call + " -> " + answered);
        if (!wanted.equals(answered)) {
            isSame = false;
            calls.forEach(System.out::println);
            System.out.println("due is " + wanted);
        }
    }

    private int any(int from, int to) {
        return from + random.nextInt(to - from + 1);
    }

    /** An element that was made, seldom another number. */
    private int element() {
        return random.nextInt(30) == 0 ? any(-2, 41) : any(0, made - 1);
    }

    /** Some regions and a table, so that there is something to happen with. */
    private void plant() {
        add(0, 0, random.nextBoolean() ? BrailleDesk.LIVE : BrailleDesk.GROUP);
        add(random.nextInt(2), 0, BrailleDesk.TABLE);
        int rows = any(1, 4);
        for (int row = 0; row < rows; row++) {
            add(2, random.nextInt(row + 1), BrailleDesk.ROW);
        }
        for (int row = 0; row < rows; row++) {
            for (int i = random.nextInt(4); i > 0; i--) {
                draft(random.nextInt(3));
                add(3 + row, 0, any(BrailleDesk.TEXT, BrailleDesk.EDIT));
            }
        }
    }

    private void add(int parent, int place, int kind) {
        int before = model.elements();
        same("add(" + parent + ", " + place + ", " + kind + ")", () -> model.add(parent, place, kind),
                () -> desk.add(parent, place, kind));
        made += model.elements() - before;
    }

    private void draft(int count) {
        for (int i = 0; i < count; i++) {
            int code = random.nextInt(60) == 0 ? any(120, 130) : CHARACTERS[random.nextInt(CHARACTERS.length)];
            same("draft(" + code + ")", () -> model.draft(code), () -> desk.draft(code));
        }
    }

    private void change() {
        int sum = 0;
        for (int liking : likings) {
            sum += liking;
        }
        int choice = random.nextInt(sum);
        int which = 0;
        while (choice >= likings[which]) {
            choice -= likings[which];
            which++;
        }
        change(which, element());
    }

    private void change(int which, int element) {
        boolean flag = random.nextBoolean();
        switch (which) {
            case 0 -> draft(random.nextInt(5));
            case 1 -> addSomewhere(element);
            case 2 -> {
                int gone = random.nextInt(4) == 0 ? element : made - 1 - random.nextInt(3);
                same("remove(" + gone + ")", () -> model.remove(gone), () -> desk.remove(gone));
            }
            case 3 -> same("hide(" + element + ", " + flag + ")", () -> model.hide(element, flag),
                    () -> desk.hide(element, flag));
            case 4 -> {
                draft(random.nextInt(3));
                same("rename(" + element + ")", () -> model.rename(element), () -> desk.rename(element));
            }
            case 5 -> same("set(" + element + ", " + flag + ")", () -> model.set(element, flag),
                    () -> desk.set(element, flag));
            case 6 -> {
                int level = random.nextInt(20) == 0 ? any(-3, 4) : any(-1, 2);
                same("setRule(" + element + ", " + level + ")", () -> model.setRule(element, level),
                        () -> desk.setRule(element, level));
            }
            case 7 -> {
                int manner = random.nextInt(20) == 0 ? any(-2, 4) : any(0, 2);
                same("setManner(" + element + ", " + manner + ")", () -> model.setManner(element, manner),
                        () -> desk.setManner(element, manner));
            }
            case 8, 9 -> chord(256 | COMMANDS[random.nextInt(COMMANDS.length)]);
            case 10 -> chord(LETTERS[random.nextInt(LETTERS.length)]);
            case 11 -> type();
            case 12 -> tick();
            default -> keys();
        }
    }

    private void addSomewhere(int parent) {
        int kind = random.nextInt(30) == 0 ? any(-1, 9) : any(0, 7);
        int most = parent >= 0 && Checks.answer(() -> model.children(parent)) instanceof Integer count ? count : 0;
        add(parent, random.nextInt(20) == 0 ? any(-1, 11) : random.nextInt(most + 1), kind);
    }

    private void chord(int keys) {
        same("chord(" + keys + ")", () -> model.chord(keys), () -> desk.chord(keys));
    }

    private void type() {
        if (!model.isTyping()) {
            for (int i = 0; i < 3 && model.kind(model.cursor()) != BrailleDesk.EDIT; i++) {
                chord(17);
                chord(286);
            }
            chord(256 + 128);
        }
        for (int i = random.nextInt(8); i > 0; i--) {
            chord(random.nextInt(10) == 0 ? any(-1, 513) : TYPING[random.nextInt(TYPING.length)]);
        }
        if (random.nextInt(6) == 0) {
            chord(128);
        }
    }

    private void tick() {
        int ticks = random.nextInt(8) > 0 ? any(1, 3) : any(0, 51);
        same("tick(" + ticks + ")", () -> model.tick(ticks), () -> desk.tick(ticks));
    }

    private void keys() {
        for (int i = random.nextInt(4); i > 0; i--) {
            int key = any(-1, 9);
            if (random.nextBoolean()) {
                same("press(" + key + ")", () -> model.press(key), () -> desk.press(key));
            } else {
                same("release(" + key + ")", () -> model.release(key), () -> desk.release(key));
            }
        }
        for (int i = 0; random.nextInt(3) > 0 && i < 9; i++) {
            int key = i;
            same("release(" + key + ")", () -> model.release(key), () -> desk.release(key));
        }
    }

    private void ask() {
        same("cursor()", model::cursor, desk::cursor);
        for (int i = random.nextInt(4); i > 0; i--) {
            query();
        }
    }

    private void query() {
        int element = element();
        switch (random.nextInt(8)) {
            case 0 -> queryTree(element);
            case 1 -> queryElement(element);
            case 2, 3 -> queryPins(random.nextInt(20) == 0 ? any(-1, 11) : any(0, 9));
            case 4 -> queryWords(element);
            default -> querySpeech();
        }
    }

    private void queryTree(int element) {
        int place = any(-1, 6);
        switch (random.nextInt(6)) {
            case 0 -> same("elements()", model::elements, desk::elements);
            case 1 -> same("parent(" + element + ")", () -> model.parent(element), () -> desk.parent(element));
            case 2 -> same("children(" + element + ")", () -> model.children(element), () -> desk.children(element));
            case 3 -> same("childAt(" + element + ", " + place + ")", () -> model.childAt(element, place),
                    () -> desk.childAt(element, place));
            case 4 -> same("reading()", model::reading, desk::reading);
            default -> {
                int far = any(-1, made);
                same("readingAt(" + far + ")", () -> model.readingAt(far), () -> desk.readingAt(far));
            }
        }
    }

    private void queryElement(int element) {
        int index = any(-1, 5);
        switch (random.nextInt(9)) {
            case 0 -> same("kind(" + element + ")", () -> model.kind(element), () -> desk.kind(element));
            case 1 -> same("nameLength(" + element + ")", () -> model.nameLength(element),
                    () -> desk.nameLength(element));
            case 2 -> same("nameAt(" + element + ", " + index + ")", () -> model.nameAt(element, index),
                    () -> desk.nameAt(element, index));
            case 3 -> same("contentLength(" + element + ")", () -> model.contentLength(element),
                    () -> desk.contentLength(element));
            case 4 -> same("contentAt(" + element + ", " + index + ")", () -> model.contentAt(element, index),
                    () -> desk.contentAt(element, index));
            case 5 -> same("isOn(" + element + ")", () -> model.isOn(element), () -> desk.isOn(element));
            case 6 -> same("presses(" + element + ")", () -> model.presses(element), () -> desk.presses(element));
            case 7 -> same("isShown(" + element + ")", () -> model.isShown(element), () -> desk.isShown(element));
            default -> same("level(" + element + ")", () -> model.level(element), () -> desk.level(element));
        }
    }

    private void queryPins(int place) {
        switch (random.nextInt(6)) {
            case 0 -> same("offset()", model::offset, desk::offset);
            case 1 -> same("lineLength()", model::lineLength, desk::lineLength);
            case 2 -> same("focus()", model::focus, desk::focus);
            case 3 -> same("isTyping()", model::isTyping, desk::isTyping);
            case 4 -> same("pin(" + place + ")", () -> model.pin(place), () -> desk.pin(place));
            default -> same("pinAnew(" + place + ")", () -> model.pin(place), () -> desk.pinAnew(place));
        }
    }

    private void queryWords(int element) {
        int index = any(-1, 24);
        if (random.nextBoolean()) {
            same("wordsLength(" + element + ")", () -> model.wordsLength(element), () -> desk.wordsLength(element));
        } else {
            same("wordsAt(" + element + ", " + index + ")", () -> model.wordsAt(element, index),
                    () -> desk.wordsAt(element, index));
        }
    }

    private void querySpeech() {
        int priority = any(-1, 3);
        int back = random.nextInt(8) == 0 ? any(-1, 101) : any(0, 9);
        switch (random.nextInt(9)) {
            case 0 -> same("time()", model::time, desk::time);
            case 1 -> same("speaking()", model::speaking, desk::speaking);
            case 2 -> same("left()", model::left, desk::left);
            case 3, 4 -> same("waiting(" + priority + ")", () -> model.waiting(priority),
                    () -> desk.waiting(priority));
            case 5 -> same("heard()", model::heard, desk::heard);
            case 6 -> same("heardAt(" + back + ")", () -> model.heardAt(back), () -> desk.heardAt(back));
            case 7 -> same("dropped()", model::dropped, desk::dropped);
            default -> same("swallowed()", model::swallowed, desk::swallowed);
        }
    }
}
