/**
 * A reader of a screen for fingers and ears: a tree of elements that changes, a cursor that goes over
 * it, a line of pins, keys pressed together, speech in a queue, and regions that tell what has changed.
 */
public final class BrailleDesk {
    public static final int NONE = -1;
    public static final int GROUP = 0, TEXT = 1, BUTTON = 2, CHECK = 3, EDIT = 4, TABLE = 5, ROW = 6, LIVE = 7;
    public static final int LESS = 0, PLAIN = 1, MORE = 2;
    public static final int QUIET = 0, POLITE = 1, LOUD = 2;
    public static final int NEWS = 0, ANSWER = 1, ALERT = 2;

    private static final int MOST_ELEMENTS = 40;
    private static final int MOST_CHILDREN = 10;
    private static final int MOST_CHARACTERS = 12;
    /** The longest text, two heads of a table and the words of an EDIT by MORE, has 65 characters. */
    private static final int MOST_TEXT = 80;
    /** The longest line, two rows of characters that make two cells each, has 51 cells. */
    private static final int MOST_CELLS = 64;
    /** With so many ALERTs waiting the tree does not change; one call makes two of them at most. */
    private static final int MANY_ALERTS = 20;
    private static final int MANY_NEWS = 6;
    private static final int MOST_TICKS = 50;
    private static final int TICKS_BETWEEN_NEWS = 5;
    private static final int MOST_HEARD = 100;
    private static final int PINS = 10;
    private static final int SPACE_KEY = 8;
    private static final int SPACE_BIT = 256;
    private static final int ALL_KEYS = 511;

    private final Tree tree;
    private final Voice voice;
    private final Regions regions;
    private final Reader reader;
    private final Codes draft;
    private int pressedKeys;
    private int chordKeys;

    public BrailleDesk() {
        tree = new Tree();
        voice = new Voice();
        regions = new Regions(tree, voice);
        reader = new Reader(tree, voice);
        draft = new Codes(MOST_CHARACTERS);
    }

    // ---- the tree

    /** Adds a character to the draft of a name, and returns how many it has then. */
    public int draft(int code) throws IllegalArgumentException, IllegalStateException {
        if (!isCharacter(code)) {
            throw new IllegalArgumentException("no character has this code");
        }
        if (draft.size() >= MOST_CHARACTERS) {
            throw new IllegalStateException("the draft is full");
        }
        draft.put(code);
        return draft.size();
    }

    /** Adds an element that has the draft as its name, and returns its number. */
    public int add(int parent, int place, int kind)
            throws IndexOutOfBoundsException, IllegalArgumentException, IllegalStateException {
        Element above = existing(parent);
        if (place < 0 || place > above.size() || kind < GROUP || kind > LIVE) {
            throw new IllegalArgumentException("place or kind is out of range");
        }
        if (!tree.hasRoom() || above.size() >= MOST_CHILDREN || !above.canHave(kind)) {
            throw new IllegalStateException("there is no room for such an element");
        }
        refuseManyAlerts();
        Element element = tree.make(above, place, kind, draft);
        draft.clear();
        regions.tellWords(element);
        return element.number;
    }

    /** Removes an element with all below it, and returns how many are gone by that. */
    public int remove(int element) throws IndexOutOfBoundsException, IllegalStateException {
        Element gone = existing(element);
        refuseScreen(gone);
        refuseManyAlerts();
        boolean wasShown = gone.isShownNow();
        Element refuge = gone.refuge();
        regions.forgetWithin(gone);
        int count = tree.takeOut(gone);
        if (wasShown) {
            regions.tellGone(gone);
        }
        reader.lose(gone, refuge);
        return count;
    }

    /** Hides an element, or not any more, and returns whether it was hidden. */
    public boolean hide(int element, boolean isHidden) throws IndexOutOfBoundsException, IllegalStateException {
        Element changed = existing(element);
        refuseScreen(changed);
        refuseManyAlerts();
        boolean wasHidden = changed.isHidden;
        boolean wasShown = changed.isShownNow();
        changed.isHidden = isHidden;
        tree.reorder();
        if (wasShown && isHidden) {
            regions.tellGone(changed);
            reader.lose(changed, changed.refuge());
        } else if (wasHidden && !isHidden) {
            regions.tellWords(changed);
        }
        return wasHidden;
    }

    /** Gives an element the draft as its name, and returns how many characters that has. */
    public int rename(int element) throws IndexOutOfBoundsException, IllegalStateException {
        Element renamed = existing(element);
        refuseScreen(renamed);
        refuseManyAlerts();
        boolean isOther = !renamed.name.isSame(draft);
        renamed.name.copy(draft);
        draft.clear();
        if (isOther) {
            regions.tellWords(renamed);
        }
        reader.refreshPins();
        return renamed.name.size();
    }

    /** Puts a CHECK on or off, and returns whether it was on. */
    public boolean set(int element, boolean isOn) throws IndexOutOfBoundsException, IllegalStateException {
        Element check = existing(element);
        if (check.kind != CHECK) {
            throw new IllegalStateException("the element is no CHECK");
        }
        refuseManyAlerts();
        boolean wasOn = check.isOn;
        check.isOn = isOn;
        if (wasOn != isOn) {
            regions.tellWords(check);
        }
        reader.refreshPins();
        return wasOn;
    }

    /** Sets the rule of an element, and returns the one before. */
    public int setRule(int element, int level) throws IndexOutOfBoundsException, IllegalArgumentException {
        Element ruled = existing(element);
        if (level != NONE && (level < LESS || level > MORE)) {
            throw new IllegalArgumentException("there is no such level");
        }
        int before = ruled.rule;
        ruled.rule = level;
        reader.refreshPins();
        return before;
    }

    /** Sets the manner of a region, and returns the one before. */
    public int setManner(int element, int manner)
            throws IndexOutOfBoundsException, IllegalArgumentException, IllegalStateException {
        Element region = existing(element);
        if (manner < QUIET || manner > LOUD) {
            throw new IllegalArgumentException("there is no such manner");
        }
        if (region.kind != LIVE) {
            throw new IllegalStateException("the element is no LIVE");
        }
        int before = region.manner;
        region.manner = manner;
        regions.swallow(region);
        return before;
    }

    /** Returns how many elements are there, the screen included. */
    public int elements() {
        return tree.there;
    }

    /** Returns the kind of an element. */
    public int kind(int element) throws IndexOutOfBoundsException {
        return existing(element).kind;
    }

    /** Returns the parent of an element; NONE for the screen. */
    public int parent(int element) throws IndexOutOfBoundsException {
        Element above = existing(element).above;
        return above == null ? NONE : above.number;
    }

    /** Returns how many children an element has, shown or not. */
    public int children(int element) throws IndexOutOfBoundsException {
        return existing(element).size();
    }

    /** Returns a child of an element, shown or not. */
    public int childAt(int element, int place) throws IndexOutOfBoundsException {
        Element child = existing(element).child(place);
        if (child == null) {
            throw new IndexOutOfBoundsException("there is no child at this place");
        }
        return child.number;
    }

    /** Returns how many characters the name of an element has. */
    public int nameLength(int element) throws IndexOutOfBoundsException {
        return existing(element).name.size();
    }

    /** Returns the code of a character of the name of an element. */
    public int nameAt(int element, int index) throws IndexOutOfBoundsException {
        return codeAt(existing(element).name, index);
    }

    /** Returns how many characters the content of an element has; 0 if it is no EDIT. */
    public int contentLength(int element) throws IndexOutOfBoundsException {
        return existing(element).content.size();
    }

    /** Returns the code of a character of the content of an EDIT. */
    public int contentAt(int element, int index) throws IndexOutOfBoundsException {
        return codeAt(existing(element).content, index);
    }

    /** Tells whether an element is a CHECK that is on. */
    public boolean isOn(int element) throws IndexOutOfBoundsException {
        return existing(element).isOn;
    }

    /** Returns how often an element was pressed; 0 if it is no BUTTON. */
    public int presses(int element) throws IndexOutOfBoundsException {
        return existing(element).pressed;
    }

    /** Tells whether an element is shown. */
    public boolean isShown(int element) throws IndexOutOfBoundsException {
        return existing(element).isShownNow();
    }

    /** Returns the level of an element. */
    public int level(int element) throws IndexOutOfBoundsException {
        return existing(element).levelNow();
    }

    /** Returns how many elements are shown. */
    public int reading() {
        return tree.shown;
    }

    /** Returns an element by the reading order. */
    public int readingAt(int place) throws IndexOutOfBoundsException {
        Element element = tree.inOrder(place);
        if (element == null) {
            throw new IndexOutOfBoundsException("not so many elements are shown");
        }
        return element.number;
    }

    // ---- keys

    /** Presses a key, and returns how many are pressed then. */
    public int press(int key) throws IndexOutOfBoundsException, IllegalStateException {
        int bit = keyBit(key);
        if ((pressedKeys & bit) != 0) {
            throw new IllegalStateException("the key is pressed");
        }
        chordKeys = pressedKeys == 0 ? bit : chordKeys | bit;
        pressedKeys |= bit;
        return Integer.bitCount(pressedKeys);
    }

    /** Releases a key, and returns how many are pressed then. */
    public int release(int key) throws IndexOutOfBoundsException, IllegalStateException {
        int bit = keyBit(key);
        if ((pressedKeys & bit) == 0) {
            throw new IllegalStateException("the key is not pressed");
        }
        pressedKeys &= ~bit;
        if (pressedKeys == 0) {
            reader.obey(chordKeys);
        }
        return Integer.bitCount(pressedKeys);
    }

    /** Presses some keys, releases them all, and returns the element at the cursor then. */
    public int chord(int keys) throws IllegalArgumentException, IllegalStateException {
        if (keys < 1 || keys > ALL_KEYS) {
            throw new IllegalArgumentException("there are no such keys");
        }
        if (pressedKeys != 0) {
            throw new IllegalStateException("a key is pressed");
        }
        reader.obey(keys);
        return reader.cursor.number;
    }

    /** Returns the element at the cursor. */
    public int cursor() {
        return reader.cursor.number;
    }

    /** Returns the element with the focus; NONE if it is nowhere. */
    public int focus() {
        Element focused = reader.focus;
        return focused == null ? NONE : focused.number;
    }

    /** Tells whether one types. */
    public boolean isTyping() {
        return reader.typist.isAtWork;
    }

    // ---- pins

    /** Returns the offset. */
    public int offset() {
        return reader.pins.start;
    }

    /** Returns how many cells the line of the element at the cursor has. */
    public int lineLength() {
        return reader.pins.line.size();
    }

    /** Returns what a pin shows, from the line that is kept. */
    public int pin(int place) throws IndexOutOfBoundsException {
        refuseNoPin(place);
        return reader.pins.cell(place);
    }

    /** Returns what a pin shows, with the line made anew from the tree. */
    public int pinAnew(int place) throws IndexOutOfBoundsException {
        refuseNoPin(place);
        return reader.cellAnew(place);
    }

    // ---- words and speech

    /** Returns how many characters the words of an element have. */
    public int wordsLength(int element) throws IndexOutOfBoundsException, IllegalStateException {
        return wordsOf(existing(element)).size();
    }

    /** Returns the code of a character of the words of an element. */
    public int wordsAt(int element, int index) throws IllegalStateException, IndexOutOfBoundsException {
        return codeAt(wordsOf(existing(element)), index);
    }

    /** Lets ticks pass, and returns how many characters are spoken in them. */
    public int tick(int ticks) throws IllegalArgumentException {
        if (ticks < 1 || ticks > MOST_TICKS) {
            throw new IllegalArgumentException("not so many ticks can pass");
        }
        int before = voice.heardCount;
        for (int i = 0; i < ticks; i++) {
            regions.passTick();
            voice.speak();
        }
        return voice.heardCount - before;
    }

    /** Returns the time: how many ticks have passed. */
    public int time() {
        return regions.now;
    }

    /** Returns the priority of the text that is being spoken; NONE if none is. */
    public int speaking() {
        return voice.priority;
    }

    /** Returns how many characters of that text are still to be spoken; 0 if none is. */
    public int left() {
        return voice.unspoken();
    }

    /** Returns how many texts of a priority wait. */
    public int waiting(int priority) throws IllegalArgumentException {
        if (priority < NEWS || priority > ALERT) {
            throw new IllegalArgumentException("there is no such priority");
        }
        return voice.countWaiting(priority);
    }

    /** Returns how many characters were spoken so far. */
    public int heard() {
        return voice.heardCount;
    }

    /** Returns a character that was spoken: 0 for the last one, up to 99. */
    public int heardAt(int back) throws IndexOutOfBoundsException {
        if (back < 0 || back >= MOST_HEARD || back >= voice.heardCount) {
            throw new IndexOutOfBoundsException("not so many characters can be told");
        }
        return voice.spokenAgo(back);
    }

    /** Returns how many texts were dropped. */
    public int dropped() {
        return voice.droppedCount;
    }

    /** Returns how many texts that regions had kept were swallowed. */
    public int swallowed() {
        return regions.swallowedCount;
    }

    private Element existing(int number) throws IndexOutOfBoundsException {
        Element element = tree.find(number);
        if (element == null) {
            throw new IndexOutOfBoundsException("there is no such element");
        }
        return element;
    }

    private static void refuseScreen(Element element) throws IllegalStateException {
        if (element.above == null) {
            throw new IllegalStateException("the element is the screen");
        }
    }

    private void refuseManyAlerts() throws IllegalStateException {
        if (voice.countWaiting(ALERT) >= MANY_ALERTS) {
            throw new IllegalStateException("too many ALERTs wait");
        }
    }

    private static void refuseNoPin(int place) throws IndexOutOfBoundsException {
        if (place < 0 || place >= PINS) {
            throw new IndexOutOfBoundsException("there is no such pin");
        }
    }

    private static int keyBit(int key) throws IndexOutOfBoundsException {
        if (key < 0 || key > SPACE_KEY) {
            throw new IndexOutOfBoundsException("there is no such key");
        }
        return 1 << key;
    }

    private static int codeAt(Codes codes, int index) throws IndexOutOfBoundsException {
        if (index < 0 || index >= codes.size()) {
            throw new IndexOutOfBoundsException("there is no character at this index");
        }
        return codes.at(index);
    }

    private Codes wordsOf(Element element) throws IllegalStateException {
        if (!element.isShownNow()) {
            throw new IllegalStateException("the element is not shown");
        }
        return reader.wordsOf(element);
    }

    private static boolean isCharacter(int code) {
        return code >= 32 && code <= 126 || code >= 119040 && code <= 119295;
    }

    /** A row of characters or of cells, at most as many as it was made for, used again and again. */
    private static final class Codes {
        private final int[] codes;
        private int count;

        Codes(int most) {
            codes = new int[most < 0 ? 0 : most];
        }

        int size() {
            return count;
        }

        int at(int index) {
            return index >= 0 && index < count && index < codes.length ? codes[index] : NONE;
        }

        void put(int code) {
            if (count >= 0 && count < codes.length) {
                codes[count] = code;
                count++;
            }
        }

        void clear() {
            count = 0;
        }

        void takeLast() {
            if (count > 0) {
                count--;
            }
        }

        void copy(Codes other) {
            count = 0;
            while (count < other.count && count < other.codes.length && count < codes.length) {
                codes[count] = other.codes[count];
                count++;
            }
        }

        boolean isSame(Codes other) {
            if (count != other.count) {
                return false;
            }
            for (int i = 0; i < count; i++) {
                if (at(i) != other.at(i)) {
                    return false;
                }
            }
            return true;
        }

        void part(Codes part) {
            if (part.count > 0 && count > 0) {
                put(' ');
            }
            for (int i = 0; i < part.count; i++) {
                put(part.at(i));
            }
        }

        void part(String part) {
            if (!part.isEmpty() && count > 0) {
                put(' ');
            }
            for (int i = 0; i < part.length(); i++) {
                put(part.charAt(i));
            }
        }

        /** A number from 0 to 99, as its digits. */
        void part(int number) {
            if (count > 0) {
                put(' ');
            }
            if (number >= 10) {
                put('0' + number / 10);
            }
            put('0' + number % 10);
        }
    }

    /** One element of the tree, with its children, and what a LIVE keeps as a region. */
    private static final class Element {
        final int number;
        final int kind;
        final Element above;
        private final Element[] below;
        private int belowCount;
        final Codes name;
        final Codes content;
        boolean isHidden;
        boolean isOn;
        int pressed;
        int rule;
        int manner;
        final Codes kept;
        boolean hasToldNews;
        int lastNews;

        Element(int number, int kind, Element above) {
            this.number = number;
            this.kind = kind;
            this.above = above;
            below = new Element[MOST_CHILDREN];
            name = new Codes(MOST_CHARACTERS);
            content = new Codes(kind == EDIT ? MOST_CHARACTERS : 0);
            rule = NONE;
            manner = POLITE;
            kept = new Codes(kind == LIVE ? MOST_TEXT : 0);
        }

        int size() {
            return belowCount;
        }

        Element child(int place) {
            return place >= 0 && place < belowCount && place < below.length ? below[place] : null;
        }

        Element shownChild(int place) {
            Element child = place >= 0 && place < belowCount && place < below.length ? below[place] : null;
            return child == null || child.isHidden ? null : child;
        }

        int placeOf(Element child) {
            for (int i = 0; i < belowCount; i++) {
                if (child(i) == child) {
                    return i;
                }
            }
            return NONE;
        }

        boolean canHave(int childKind) {
            switch (kind) {
                case GROUP:
                case LIVE:
                    return childKind != ROW;
                case TABLE:
                    return childKind == ROW;
                case ROW:
                    return childKind == TEXT || childKind == BUTTON || childKind == CHECK || childKind == EDIT;
                default:
                    return false;
            }
        }

        void insert(Element child, int place) {
            if (belowCount < 0 || belowCount >= below.length || place < 0 || place > belowCount) {
                return;
            }
            for (int i = belowCount; i > place; i--) {
                below[i] = below[i - 1];
            }
            below[place] = child;
            belowCount++;
        }

        void takeOut(Element child) {
            int place = placeOf(child);
            if (place < 0 || belowCount > below.length) {
                return;
            }
            for (int i = place; i + 1 < belowCount; i++) {
                below[i] = below[i + 1];
            }
            belowCount--;
        }

        boolean isWithin(Element other) {
            for (Element element = this; element != null; element = element.above) {
                if (element == other) {
                    return true;
                }
            }
            return false;
        }

        boolean isShownNow() {
            for (Element element = this; element != null; element = element.above) {
                if (element.isHidden) {
                    return false;
                }
            }
            return true;
        }

        int levelNow() {
            for (Element element = this; element != null; element = element.above) {
                if (element.rule != NONE) {
                    return element.rule;
                }
            }
            return PLAIN;
        }

        Element region() {
            for (Element element = above; element != null; element = element.above) {
                if (element.kind == LIVE) {
                    return element;
                }
            }
            return null;
        }

        boolean canHaveFocus() {
            return kind == BUTTON || kind == CHECK || kind == EDIT;
        }

        /** Where the cursor comes to when it is lost with this element. */
        Element refuge() {
            if (above == null) {
                return this;
            }
            int place = above.placeOf(this);
            for (int i = place + 1; i < above.size(); i++) {
                Element sibling = above.shownChild(i);
                if (sibling != null) {
                    return sibling;
                }
            }
            for (int i = place - 1; i >= 0; i--) {
                Element sibling = above.shownChild(i);
                if (sibling != null) {
                    return sibling;
                }
            }
            return above;
        }

        void putWords(Codes text) {
            int level = levelNow();
            text.part(name);
            if (level != LESS || name.size() == 0) {
                text.part(kindWord(kind));
            }
            if (kind == CHECK) {
                text.part(isOn ? "on" : "off");
            }
            text.part(content);
            if (level == MORE && above != null) {
                text.part(above.shownUpTo(above.placeOf(this)));
                text.part("of");
                text.part(above.shownUpTo(MOST_CHILDREN));
            }
        }

        /** How many children up to a place are shown. */
        private int shownUpTo(int place) {
            int shown = 0;
            for (int i = 0; i <= place && i < belowCount; i++) {
                if (shownChild(i) != null) {
                    shown++;
                }
            }
            return shown;
        }

        static String kindWord(int kind) {
            switch (kind) {
                case GROUP:
                    return "group";
                case BUTTON:
                    return "button";
                case CHECK:
                    return "check";
                case EDIT:
                    return "edit";
                case TABLE:
                    return "table";
                case ROW:
                    return "row";
                case LIVE:
                    return "live";
                default:
                    return "";
            }
        }
    }

    /** All elements by their numbers, and those that are shown by the reading order. */
    private static final class Tree {
        final Element screen;
        private final Element[] made;
        private int madeCount;
        int there;
        private final Element[] order;
        int shown;

        Tree() {
            screen = new Element(0, GROUP, null);
            made = new Element[MOST_ELEMENTS];
            made[0] = screen;
            madeCount = 1;
            there = 1;
            order = new Element[MOST_ELEMENTS];
            order[0] = screen;
            shown = 1;
        }

        boolean hasRoom() {
            return madeCount < MOST_ELEMENTS;
        }

        Element find(int number) {
            return number >= 0 && number < made.length ? made[number] : null;
        }

        Element inOrder(int place) {
            return place >= 0 && place < shown && place < order.length ? order[place] : null;
        }

        int placeInOrder(Element element) {
            for (int i = 0; i < shown; i++) {
                if (inOrder(i) == element) {
                    return i;
                }
            }
            return NONE;
        }

        Element make(Element above, int place, int kind, Codes name) {
            Element element = new Element(madeCount, kind, above);
            element.name.copy(name);
            if (madeCount >= 0 && madeCount < made.length) {
                made[madeCount] = element;
                madeCount++;
                there++;
                above.insert(element, place);
                reorder();
            }
            return element;
        }

        int takeOut(Element gone) {
            int before = there;
            for (int i = 0; i < made.length; i++) {
                Element element = made[i];
                if (element != null && element.isWithin(gone)) {
                    made[i] = null;
                    there--;
                }
            }
            if (gone.above != null) {
                gone.above.takeOut(gone);
            }
            reorder();
            return before - there;
        }

        void reorder() {
            shown = collect(screen, order, 0, 0);
        }

        private static int collect(Element element, Element[] order, int count, int depth) {
            if (element.isHidden || depth >= MOST_ELEMENTS || count < 0 || count >= order.length) {
                return count;
            }
            order[count] = element;
            int end = count + 1;
            for (int i = 0; i < element.size(); i++) {
                Element child = element.child(i);
                if (child != null) {
                    end = collect(child, order, end, depth + 1);
                }
            }
            return end;
        }

        Element nextOfKind(Element from, int kind) {
            for (int i = placeInOrder(from) + 1; i < shown; i++) {
                Element element = inOrder(i);
                if (element != null && element.kind == kind) {
                    return element;
                }
            }
            return null;
        }

        /** The next element behind this one that can have the focus, going on from the first one at the end. */
        Element nextForFocus(Element from) {
            Element first = null;
            int place = placeInOrder(from);
            for (int i = 0; i < shown; i++) {
                Element element = inOrder(i);
                if (element != null && element.canHaveFocus()) {
                    if (i > place) {
                        return element;
                    }
                    first = first == null ? element : first;
                }
            }
            return first;
        }
    }

    /** The letters of points, and how a line is made of them. */
    private static final class Braille {
        static final int CAPITAL_SIGN = 32;
        static final int NUMBER_SIGN = 60;
        static final int LETTER_SIGN = 48;
        static final int ALL_SIX = 63;
        static final int POINTS_36 = 36;
        static final int POINTS_78 = 192;
        private static final int[] LETTERS = {
            1, 3, 9, 25, 17, 11, 27, 19, 10, 26, 5, 7, 13, 29, 21, 15, 31, 23, 14, 30, 37, 39, 58, 45, 61, 53
        };

        static int pointsOf(int letter) {
            return letter >= 0 && letter < LETTERS.length ? LETTERS[letter] : 0;
        }

        static int letterOf(int points) {
            for (int i = 0; i < LETTERS.length; i++) {
                if (LETTERS[i] == points) {
                    return i;
                }
            }
            return NONE;
        }

        /** The points of the first letter of a word; 0 if it is empty. */
        static int firstPoints(String word) {
            return word.isEmpty() ? 0 : pointsOf(word.charAt(0) - 'a');
        }

        static int signOf(int code) {
            switch (code) {
                case ' ':
                    return 0;
                case '.':
                    return 50;
                case ',':
                    return 2;
                case '?':
                    return 38;
                case '-':
                    return POINTS_36;
                default:
                    return ALL_SIX;
            }
        }

        static int characterOfSign(int points) {
            switch (points) {
                case 50:
                    return '.';
                case 2:
                    return ',';
                case 38:
                    return '?';
                case POINTS_36:
                    return '-';
                default:
                    return NONE;
            }
        }

        static boolean isSmall(int code) {
            return code >= 'a' && code <= 'z';
        }

        static boolean isCapital(int code) {
            return code >= 'A' && code <= 'Z';
        }

        static boolean isDigit(int code) {
            return code >= '0' && code <= '9';
        }

        static void write(Codes cells, Codes text) {
            for (int i = 0; i < text.size(); i++) {
                int code = text.at(i);
                boolean isBehindDigit = isDigit(text.at(i - 1));
                if (isSmall(code)) {
                    if (code <= 'j' && isBehindDigit) {
                        cells.put(LETTER_SIGN);
                    }
                    cells.put(pointsOf(code - 'a'));
                } else if (isCapital(code)) {
                    int signs = capitalSigns(text, i);
                    for (int k = 0; k < signs; k++) {
                        cells.put(CAPITAL_SIGN);
                    }
                    cells.put(pointsOf(code - 'A'));
                } else if (isDigit(code)) {
                    if (!isBehindDigit) {
                        cells.put(NUMBER_SIGN);
                    }
                    cells.put(pointsOf(code == '0' ? 9 : code - '1'));
                } else {
                    cells.put(signOf(code));
                }
            }
        }

        /** How many signs stand ahead of the capital at an index: its whole row of letters decides. */
        private static int capitalSigns(Codes text, int index) {
            int start = index;
            boolean isAllCapitals = true;
            while (start > 0 && isLetter(text.at(start - 1))) {
                start--;
                isAllCapitals = isAllCapitals && isCapital(text.at(start));
            }
            int end = index + 1;
            while (end < text.size() && isLetter(text.at(end))) {
                isAllCapitals = isAllCapitals && isCapital(text.at(end));
                end++;
            }
            if (!isAllCapitals || end - start < 2) {
                return 1;
            }
            return index == start ? 2 : 0;
        }

        private static boolean isLetter(int code) {
            return code >= 'a' && code <= 'z' || code >= 'A' && code <= 'Z';
        }

        static void writeLine(Codes cells, Element element, boolean isTyping) {
            cells.clear();
            if (element.levelNow() != LESS && element.kind != TEXT) {
                cells.put(firstPoints(Element.kindWord(element.kind)) | POINTS_78);
            }
            write(cells, element.name);
            if (element.kind == CHECK) {
                cells.put(0);
                cells.put(element.isOn ? ALL_SIX : POINTS_36);
            }
            if (element.content.size() > 0) {
                cells.put(0);
                write(cells, element.content);
            }
            if (element.kind == EDIT && isTyping) {
                cells.put(POINTS_78);
            }
        }
    }

    /** The line that is kept, and the offset from which the pins show it. */
    private static final class Pins {
        final Codes line;
        private final Codes lineAnew;
        int start;

        Pins() {
            line = new Codes(MOST_CELLS);
            lineAnew = new Codes(MOST_CELLS);
        }

        void keep(Element element, boolean isTyping) {
            Braille.writeLine(line, element, isTyping);
            if (start > 0 && start >= line.size()) {
                start = line.size() > 0 ? (line.size() - 1) / PINS * PINS : 0;
            }
        }

        void goLeft() {
            if (start > 0) {
                start -= PINS;
            }
        }

        void goRight() {
            if (start + PINS < line.size()) {
                start += PINS;
            }
        }

        int cell(int place) {
            return cellOf(line, place);
        }

        int cellAnew(Element element, boolean isTyping, int place) {
            Braille.writeLine(lineAnew, element, isTyping);
            return cellOf(lineAnew, place);
        }

        private int cellOf(Codes cells, int place) {
            int index = start + place;
            return index < cells.size() ? cells.at(index) : 0;
        }
    }

    /** Texts that wait, the first one first, in rows that are used again. */
    private static final class Queue {
        private final Codes[] texts;
        private int count;

        Queue(int most) {
            texts = new Codes[most < 0 ? 0 : most];
            for (int i = 0; i < texts.length; i++) {
                texts[i] = new Codes(MOST_TEXT);
            }
        }

        int size() {
            return count;
        }

        void clear() {
            count = 0;
        }

        void put(Codes text) {
            Codes free = count >= 0 && count < texts.length ? texts[count] : null;
            if (free != null) {
                free.copy(text);
                count++;
            }
        }

        void moveFirst(Codes into) {
            Codes first = texts.length > 0 ? texts[0] : null;
            if (first != null) {
                into.copy(first);
            }
            dropFirst();
        }

        /** The row of the first text comes behind the others, free for another one. */
        void dropFirst() {
            if (count <= 0 || count > texts.length) {
                return;
            }
            Codes first = texts[0];
            for (int i = 0; i + 1 < texts.length; i++) {
                texts[i] = texts[i + 1];
            }
            texts[texts.length - 1] = first;
            count--;
        }
    }

    /** The texts that wait, the one that is being spoken, and what was heard. */
    private static final class Voice {
        private final Queue news;
        private final Queue alerts;
        private final Codes answer;
        private int answerNext;
        private boolean answerWaits;
        private final Codes spoken;
        private int next;
        int priority;
        private final int[] lastHeard;
        int heardCount;
        int droppedCount;

        Voice() {
            news = new Queue(MANY_NEWS);
            alerts = new Queue(MANY_ALERTS + 1);
            answer = new Codes(MOST_TEXT);
            spoken = new Codes(MOST_TEXT);
            priority = NONE;
            lastHeard = new int[MOST_HEARD];
        }

        int countWaiting(int ofPriority) {
            switch (ofPriority) {
                case NEWS:
                    return news.size();
                case ANSWER:
                    return answerWaits ? 1 : 0;
                default:
                    return alerts.size();
            }
        }

        int unspoken() {
            return priority == NONE ? 0 : spoken.size() - next;
        }

        void comeNews(Codes text) {
            if (text.size() == 0) {
                return;
            }
            news.put(text);
            if (news.size() >= MANY_NEWS) {
                news.dropFirst();
                droppedCount++;
            }
        }

        void comeAnswer(Codes text) {
            if (text.size() == 0) {
                return;
            }
            dropAnswerThatWaits();
            dropSpokenBelowAlert();
            answer.copy(text);
            answerNext = 0;
            answerWaits = true;
        }

        void comeAlert(Codes text) {
            if (text.size() == 0) {
                return;
            }
            alerts.put(text);
            if (priority == NEWS) {
                dropSpokenBelowAlert();
            } else if (priority == ANSWER) {
                answer.copy(spoken);
                answerNext = wordStart(spoken, next);
                answerWaits = true;
                priority = NONE;
            }
        }

        private static int wordStart(Codes text, int index) {
            int start = index;
            while (start > 0 && text.at(index) != ' ' && text.at(start - 1) != ' ') {
                start--;
            }
            return start;
        }

        void hush() {
            droppedCount += news.size();
            news.clear();
            dropAnswerThatWaits();
            dropSpokenBelowAlert();
        }

        private void dropAnswerThatWaits() {
            if (answerWaits) {
                answerWaits = false;
                droppedCount++;
            }
        }

        private void dropSpokenBelowAlert() {
            if (priority == NEWS || priority == ANSWER) {
                priority = NONE;
                droppedCount++;
            }
        }

        /** Speaks the next character, if there is one. */
        void speak() {
            if (priority == NONE) {
                begin();
            }
            if (priority == NONE) {
                return;
            }
            int index = heardCount % MOST_HEARD;
            if (index >= 0 && index < lastHeard.length) {
                lastHeard[index] = spoken.at(next);
            }
            heardCount++;
            next++;
            if (next >= spoken.size()) {
                priority = NONE;
            }
        }

        private void begin() {
            next = 0;
            if (alerts.size() > 0) {
                alerts.moveFirst(spoken);
                priority = ALERT;
            } else if (answerWaits) {
                spoken.copy(answer);
                next = answerNext;
                answerWaits = false;
                priority = ANSWER;
            } else if (news.size() > 0) {
                news.moveFirst(spoken);
                priority = NEWS;
            }
        }

        int spokenAgo(int back) {
            int index = (heardCount - 1 - back) % MOST_HEARD;
            return index >= 0 && index < lastHeard.length ? lastHeard[index] : NONE;
        }
    }

    /** What regions tell, at once or later; the time is here because they wait by it. */
    private static final class Regions {
        private final Tree tree;
        private final Voice voice;
        private final Codes text;
        int now;
        int swallowedCount;

        Regions(Tree tree, Voice voice) {
            this.tree = tree;
            this.voice = voice;
            text = new Codes(MOST_TEXT);
        }

        void tellWords(Element element) {
            if (element.isShownNow()) {
                text.clear();
                element.putWords(text);
                tell(element.region());
            }
        }

        void tellGone(Element element) {
            text.clear();
            text.part("gone");
            if (element.name.size() > 0) {
                text.part(element.name);
            } else {
                text.part(Element.kindWord(element.kind));
            }
            tell(element.region());
        }

        private void tell(Element region) {
            if (region == null || region.manner == QUIET || text.size() == 0) {
                return;
            }
            if (region.manner == LOUD) {
                voice.comeAlert(text);
            } else if (!region.hasToldNews || mayTellAgain(region)) {
                tellNews(region, text);
            } else {
                swallow(region);
                region.kept.copy(text);
            }
        }

        private boolean mayTellAgain(Element region) {
            return now - region.lastNews >= TICKS_BETWEEN_NEWS;
        }

        private void tellNews(Element region, Codes news) {
            region.hasToldNews = true;
            region.lastNews = now;
            voice.comeNews(news);
        }

        void swallow(Element region) {
            if (region.kept.size() > 0) {
                region.kept.clear();
                swallowedCount++;
            }
        }

        void forgetWithin(Element gone) {
            for (int i = 0; i < MOST_ELEMENTS; i++) {
                Element element = tree.find(i);
                if (element != null && element.isWithin(gone)) {
                    swallow(element);
                }
            }
        }

        void passTick() {
            now++;
            for (int i = 0; i < MOST_ELEMENTS; i++) {
                Element region = tree.find(i);
                if (region != null && region.kept.size() > 0 && mayTellAgain(region)) {
                    letKeptCome(region);
                }
            }
        }

        private void letKeptCome(Element region) {
            if (region.isShownNow()) {
                tellNews(region, region.kept);
                region.kept.clear();
            } else {
                swallow(region);
            }
        }
    }

    /** What chords mean while one types. */
    private static final class Typist {
        boolean isAtWork;
        private boolean isCapitalTold;
        private boolean hasNumbersOn;

        void begin() {
            isAtWork = true;
            isCapitalTold = false;
            hasNumbersOn = false;
        }

        void end() {
            isAtWork = false;
        }

        /** Takes a sign that tells how to type what comes behind it; answers whether it was one. */
        boolean takesSign(int keys) {
            switch (keys) {
                case Braille.CAPITAL_SIGN:
                    isCapitalTold = true;
                    return true;
                case Braille.NUMBER_SIGN:
                    hasNumbersOn = true;
                    return true;
                case Braille.LETTER_SIGN:
                    hasNumbersOn = false;
                    return true;
                default:
                    return false;
            }
        }

        /** The character that a chord types now; NONE if it types none. */
        int characterOf(int keys) {
            if (keys == SPACE_BIT) {
                return ' ';
            }
            int letter = Braille.letterOf(keys);
            if (letter == NONE) {
                return Braille.characterOfSign(keys);
            }
            if (isCapitalTold) {
                return 'A' + letter;
            }
            if (hasNumbersOn && letter < 10) {
                return letter == 9 ? '0' : '1' + letter;
            }
            return 'a' + letter;
        }

        /** Only what was typed changes what is told: with a full content nothing is done. */
        void typed(int code) {
            if (Braille.isSmall(code) || Braille.isCapital(code)) {
                isCapitalTold = false;
                hasNumbersOn = false;
            } else if (code == ' ') {
                hasNumbersOn = false;
            }
        }
    }

    /** The cursor, the focus, and what chords let them do. */
    private static final class Reader {
        private static final int PREVIOUS = 1, NEXT = 8, OUT = 4, IN = 32, UP = 2, DOWN = 16, TAB = 30, ACT = 128;
        private static final int HUSH = 64, LEFT = 7, RIGHT = 56, AGAIN = 23;
        private static final int TAKE_BACK = 64, END_TYPING = 128;

        private final Tree tree;
        private final Voice voice;
        final Pins pins;
        final Typist typist;
        private final Codes text;
        Element cursor;
        Element focus;

        Reader(Tree tree, Voice voice) {
            this.tree = tree;
            this.voice = voice;
            pins = new Pins();
            typist = new Typist();
            text = new Codes(MOST_TEXT);
            cursor = tree.screen;
            pins.keep(cursor, false);
        }

        void refreshPins() {
            pins.keep(cursor, typist.isAtWork);
        }

        int cellAnew(int place) {
            return pins.cellAnew(cursor, typist.isAtWork, place);
        }

        Codes wordsOf(Element element) {
            text.clear();
            element.putWords(text);
            return text;
        }

        /** Ends what is no longer shown with an element that is hidden or removed. */
        void lose(Element gone, Element refuge) {
            if (focus != null && focus.isWithin(gone)) {
                focus = null;
                typist.end();
            }
            if (cursor.isWithin(gone)) {
                moveTo(refuge);
                text.clear();
                text.part("lost");
                cursor.putWords(text);
                voice.comeAlert(text);
            }
            pins.keep(cursor, typist.isAtWork);
        }

        void obey(int keys) {
            if (keys > SPACE_BIT) {
                command(keys - SPACE_BIT);
            } else if (typist.isAtWork) {
                type(keys);
            } else {
                goToKind(keys);
            }
            pins.keep(cursor, typist.isAtWork);
        }

        private void command(int points) {
            switch (points) {
                case PREVIOUS:
                    goTo(tree.inOrder(tree.placeInOrder(cursor) - 1), "end");
                    break;
                case NEXT:
                    goTo(tree.inOrder(tree.placeInOrder(cursor) + 1), "end");
                    break;
                case OUT:
                    goTo(cursor.above, "none");
                    break;
                case IN:
                    goTo(firstShownChild(), "none");
                    break;
                case UP:
                    goTo(cellInOtherRow(-1), isInRow() ? "end" : "none");
                    break;
                case DOWN:
                    goTo(cellInOtherRow(1), isInRow() ? "end" : "none");
                    break;
                case TAB:
                    goTo(tree.nextForFocus(cursor), "none");
                    takeFocus();
                    break;
                case ACT:
                    act();
                    break;
                case HUSH:
                    voice.hush();
                    break;
                case LEFT:
                    pins.goLeft();
                    break;
                case RIGHT:
                    pins.goRight();
                    break;
                case AGAIN:
                    voice.comeAnswer(wordsOf(cursor));
                    break;
                default:
                    break;
            }
        }

        private void say(String answer) {
            text.clear();
            text.part(answer);
            voice.comeAnswer(text);
        }

        /** Lets the cursor go to an element; if there is none, it stays, and typing goes on. */
        private void goTo(Element to, String otherwise) {
            if (to == null) {
                say(otherwise);
                return;
            }
            Element from = cursor;
            typist.end();
            moveTo(to);
            text.clear();
            putHeads(from, to);
            to.putWords(text);
            voice.comeAnswer(text);
        }

        private void moveTo(Element to) {
            if (to != cursor) {
                cursor = to;
                pins.start = 0;
            }
        }

        /** In a table, tells the row and the column to which the cursor comes from others. */
        private void putHeads(Element from, Element to) {
            Element row = to.above;
            Element oldRow = from.above;
            if (from == to || row == null || oldRow == null || row.kind != ROW || oldRow.kind != ROW) {
                return;
            }
            Element table = row.above;
            if (table == null || table != oldRow.above || to.levelNow() == LESS) {
                return;
            }
            Element rowHead = row.child(0);
            if (row != oldRow && rowHead != null && rowHead != to) {
                text.part(rowHead.name);
            }
            int place = row.placeOf(to);
            Element topRow = table.child(0);
            Element columnHead = topRow == null ? null : topRow.child(place);
            if (place != oldRow.placeOf(from) && columnHead != null && columnHead != to) {
                text.part(columnHead.name);
            }
        }

        private Element firstShownChild() {
            for (int i = 0; i < cursor.size(); i++) {
                Element child = cursor.shownChild(i);
                if (child != null) {
                    return child;
                }
            }
            return null;
        }

        private boolean isInRow() {
            return cursor.above != null && cursor.above.kind == ROW;
        }

        /** The nearest child at the same place in a ROW ahead, by a step of -1, or behind, by 1. */
        private Element cellInOtherRow(int step) {
            Element row = cursor.above;
            if (row == null || row.kind != ROW || row.above == null) {
                return null;
            }
            Element table = row.above;
            int place = row.placeOf(cursor);
            int rowPlace = table.placeOf(row);
            for (int i = 1; i < MOST_CHILDREN; i++) {
                Element other = table.shownChild(rowPlace + i * step);
                Element cell = other == null ? null : other.shownChild(place);
                if (cell != null) {
                    return cell;
                }
            }
            return null;
        }

        private void takeFocus() {
            if (cursor.canHaveFocus()) {
                focus = cursor;
            }
        }

        private void goToKind(int keys) {
            for (int kind = GROUP; kind <= LIVE; kind++) {
                if (keys == Braille.firstPoints(Element.kindWord(kind))) {
                    goTo(tree.nextOfKind(cursor, kind), "none");
                    return;
                }
            }
        }

        private void act() {
            takeFocus();
            switch (cursor.kind) {
                case BUTTON:
                    cursor.pressed++;
                    say("pressed");
                    break;
                case CHECK:
                    cursor.isOn = !cursor.isOn;
                    say(cursor.isOn ? "on" : "off");
                    break;
                case EDIT:
                    typist.begin();
                    say("type");
                    break;
                default:
                    say("none");
                    break;
            }
        }

        private void type(int keys) {
            if (typist.takesSign(keys)) {
                return;
            }
            if (keys == TAKE_BACK) {
                takeBack();
            } else if (keys == END_TYPING) {
                typist.end();
                voice.comeAnswer(wordsOf(cursor));
            } else {
                typeCharacter(typist.characterOf(keys));
            }
        }

        private void typeCharacter(int code) {
            if (code == NONE) {
                return;
            }
            if (cursor.content.size() >= MOST_CHARACTERS) {
                say("full");
                return;
            }
            cursor.content.put(code);
            typist.typed(code);
            sayCharacter(code);
        }

        private void takeBack() {
            int length = cursor.content.size();
            if (length == 0) {
                say("none");
                return;
            }
            int code = cursor.content.at(length - 1);
            cursor.content.takeLast();
            sayCharacter(code);
        }

        private void sayCharacter(int code) {
            text.clear();
            if (code == ' ') {
                text.part("space");
            } else {
                text.put(code);
            }
            voice.comeAnswer(text);
        }
    }
}
