/** The constants of the class by their short names, for tests of single sentences. */
abstract class Constants {
    static final int NONE = BrailleDesk.NONE;
    static final int GROUP = BrailleDesk.GROUP, TEXT = BrailleDesk.TEXT, BUTTON = BrailleDesk.BUTTON;
    static final int CHECK = BrailleDesk.CHECK, EDIT = BrailleDesk.EDIT, TABLE = BrailleDesk.TABLE;
    static final int ROW = BrailleDesk.ROW, LIVE = BrailleDesk.LIVE;
    static final int LESS = BrailleDesk.LESS, PLAIN = BrailleDesk.PLAIN, MORE = BrailleDesk.MORE;
    static final int QUIET = BrailleDesk.QUIET, POLITE = BrailleDesk.POLITE, LOUD = BrailleDesk.LOUD;
    static final int NEWS = BrailleDesk.NEWS, ANSWER = BrailleDesk.ANSWER, ALERT = BrailleDesk.ALERT;
    static final String[] KIND_WORDS = {"group", "", "button", "check", "edit", "table", "row", "live"};
}
