/** Promises 37 to 44: texts that come, wait, are spoken, cut and dropped. */
public final class SpeechTest {
    private static final Checks checks = new Checks("SpeechTest");
    private static final int NEWS = BrailleDesk.NEWS, ANSWER = BrailleDesk.ANSWER, ALERT = BrailleDesk.ALERT;
    private static final int NONE = BrailleDesk.NONE;

    public static void main(String[] args) {
        ticks();
        speaking();
        heard();
        newsComes();
        answerComes();
        emptyAnswer();
        alertComes();
        goingOn();
        goingOnAtSpaces();
        order();
        hush();
        manyAlerts();
        checks.finish();
    }

    /** The LOUD 1 with the TEXT 2, the POLITE ones 3 to 10, each with a TEXT, from 11 on. */
    private static Bench regions() {
        Bench bench = new Bench();
        bench.add(0, BrailleDesk.LIVE, "");
        bench.desk.setManner(1, BrailleDesk.QUIET);
        bench.add(1, BrailleDesk.TEXT, "");
        bench.desk.setManner(1, BrailleDesk.LOUD);
        for (int i = 3; i <= 10; i++) {
            bench.add(0, BrailleDesk.LIVE, "");
        }
        for (int i = 11; i <= 18; i++) {
            bench.add(i - 8, BrailleDesk.TEXT, "");
        }
        return bench;
    }

    private static void alert(Bench bench, String text) {
        bench.rename(2, text);
    }

    /** Lets a NEWS come by a region that never did so, or did so long ago. */
    private static void news(Bench bench, int which, String text) {
        bench.rename(11 + which, text);
    }

    private static void ticks() {
        BrailleDesk desk = new BrailleDesk();
        for (int none : new int[] {0, -1, 51, Integer.MAX_VALUE, Integer.MIN_VALUE}) {
            checks.argument("37: ticks " + none, () -> desk.tick(none));
        }
        checks.same("38: no tick passed", 0, desk.time());
        checks.same("37: silence", 0, desk.tick(1));
        checks.same("38: one", 1, desk.time());
        checks.same("37: fifty of silence", 0, desk.tick(50));
        checks.same("38: fifty more", 51, desk.time());
    }

    private static void speaking() {
        Bench bench = new Bench();
        bench.act();
        checks.same("41: waits", 1, bench.desk.waiting(ANSWER));
        checks.same("39: not yet", NONE, bench.desk.speaking());
        checks.same("40: not yet", 0, bench.desk.left());
        checks.same("37: one", 1, bench.desk.tick(1));
        checks.same("39: an ANSWER", ANSWER, bench.desk.speaking());
        checks.same("40: three left", 3, bench.desk.left());
        checks.same("41: waits no more", 0, bench.desk.waiting(ANSWER));
        checks.same("37: two more", 2, bench.desk.tick(2));
        checks.same("40: one left", 1, bench.desk.left());
        checks.same("39: still", ANSWER, bench.desk.speaking());
        checks.same("37: the last one", 1, bench.desk.tick(3));
        checks.same("39: until its last character was", NONE, bench.desk.speaking());
        checks.same("40: none left", 0, bench.desk.left());
        checks.same("42: heard", 4, bench.desk.heard());
        checks.same("44: none dropped", 0, bench.desk.dropped());
        for (int none : new int[] {-1, 3, Integer.MAX_VALUE, Integer.MIN_VALUE}) {
            checks.argument("41: priority " + none, () -> bench.desk.waiting(none));
        }
    }

    private static void heard() {
        Bench bench = new Bench();
        checks.index("43: nothing was spoken", () -> bench.desk.heardAt(0));
        bench.act();
        bench.desk.tick(3);
        checks.same("43: the last one", (int) 'n', bench.desk.heardAt(0));
        checks.same("43: the first one", (int) 'n', bench.desk.heardAt(2));
        checks.index("43: not so many", () -> bench.desk.heardAt(3));
        checks.index("43: back -1", () -> bench.desk.heardAt(-1));
        bench.desk.tick(1);
        bench.add(0, BrailleDesk.TEXT, "abcdefghijkl");
        bench.next();
        for (int i = 0; i < 8; i++) {
            bench.desk.tick(50);
            bench.again();
        }
        checks.same("42: a hundred", 100, bench.desk.heard());
        checks.same("43: the hundredth", (int) 'n', bench.desk.heardAt(99));
        checks.index("43: back 100", () -> bench.desk.heardAt(100));
        bench.desk.tick(2);
        checks.same("43: the two oldest are gone", (int) 'n', bench.desk.heardAt(99));
        checks.same("43: then", (int) 'e', bench.desk.heardAt(98));
        checks.same("43: the last one", (int) 'b', bench.desk.heardAt(0));
        checks.index("43: back 100, of 102", () -> bench.desk.heardAt(100));
        checks.index("43: far back", () -> bench.desk.heardAt(Integer.MAX_VALUE));
        bench.rename(1, "\uD834\uDD1E");
        bench.again();
        checks.same("43: a character beyond", "\uD834\uDD1E", bench.listen(1));
    }

    private static void newsComes() {
        Bench bench = regions();
        for (int i = 0; i < 5; i++) {
            news(bench, i, "" + i);
        }
        checks.same("41: five", 5, bench.desk.waiting(NEWS));
        checks.same("44: none of five", 0, bench.desk.dropped());
        news(bench, 5, "5");
        checks.same("41: the first of six is dropped", 5, bench.desk.waiting(NEWS));
        checks.same("44: one of six", 1, bench.desk.dropped());
        news(bench, 6, "6");
        checks.same("44: two of seven", 2, bench.desk.dropped());
        checks.same("37: in their order", "23456", bench.listen(10));
        news(bench, 0, "long");
        news(bench, 1, "next");
        bench.desk.tick(1);
        news(bench, 2, "more");
        checks.same("39: NEWS goes on when NEWS comes", NEWS, bench.desk.speaking());
        checks.same("41: which wait", 2, bench.desk.waiting(NEWS));
        checks.same("37: one behind the other", "ongnextmore", bench.listen(20));
        for (int i = 0; i < 6; i++) {
            news(bench, i, "x" + i);
        }
        checks.same("41: five again", 5, bench.desk.waiting(NEWS));
        bench.desk.tick(1);
        news(bench, 6, "x6");
        checks.same("44: one that is being spoken does not wait", 3, bench.desk.dropped());
        checks.same("37: the others", "1x2x3x4x5x6", bench.listen(20));
    }

    private static void answerComes() {
        Bench bench = regions();
        bench.act();
        bench.up();
        checks.same("41: one alone", 1, bench.desk.waiting(ANSWER));
        checks.same("44: the one that waited", 1, bench.desk.dropped());
        bench.desk.tick(1);
        bench.previous();
        checks.same("44: the one that was being spoken", 2, bench.desk.dropped());
        checks.same("39: not yet", NONE, bench.desk.speaking());
        checks.same("37: the new one", "end", bench.listen(9));
        news(bench, 0, "news");
        news(bench, 1, "other");
        bench.desk.tick(1);
        bench.previous();
        checks.same("44: a NEWS that was being spoken", 3, bench.desk.dropped());
        checks.same("41: a NEWS that waits stays", "1 1 0", bench.waiting());
        checks.same("37: ahead of it", "endother", bench.listen(20));
        alert(bench, "alert");
        bench.desk.tick(1);
        bench.previous();
        checks.same("39: an ALERT goes on", ALERT, bench.desk.speaking());
        checks.same("40: and is not cut", 4, bench.desk.left());
        checks.same("44: nor dropped", 3, bench.desk.dropped());
        checks.same("37: behind it", "lertend", bench.listen(20));
    }

    private static void emptyAnswer() {
        Bench bench = regions();
        bench.add(0, BrailleDesk.TEXT, "");
        bench.act();
        for (int i = 0; i < 50 && bench.desk.cursor() != 19; i++) {
            bench.next();
        }
        int dropped = bench.desk.dropped();
        bench.previous();
        bench.listen(50);
        bench.act();
        checks.same("41: an answer", 1, bench.desk.waiting(ANSWER));
        bench.desk.tick(1);
        bench.again();
        bench.next();
        checks.same("28: at one without words", 19, bench.desk.cursor());
        checks.same("39: an empty ANSWER drops none", ANSWER, bench.desk.speaking());
        checks.same("41: nor does it come", 0, bench.desk.waiting(ANSWER));
        checks.same("44: none", dropped, bench.desk.dropped());
        checks.same("37: the one before goes on", "one", bench.listen(9));
    }

    private static void alertComes() {
        Bench bench = regions();
        news(bench, 0, "news");
        bench.desk.tick(2);
        alert(bench, "one");
        checks.same("44: a NEWS that was being spoken", 1, bench.desk.dropped());
        checks.same("39: not yet", NONE, bench.desk.speaking());
        alert(bench, "two");
        checks.same("41: all wait", 2, bench.desk.waiting(ALERT));
        bench.desk.tick(1);
        alert(bench, "three");
        checks.same("39: an ALERT goes on", ALERT, bench.desk.speaking());
        checks.same("40: and is not cut", 2, bench.desk.left());
        checks.same("37: in their order", "netwothree", bench.listen(50));
        checks.same("44: none of them", 1, bench.desk.dropped());
    }

    private static void goingOn() {
        String words = "ab cde 2 of 2";
        for (int spoken = 1; spoken < words.length(); spoken++) {
            boolean isAtSpace = words.charAt(spoken) == ' ';
            int start = isAtSpace ? spoken : words.lastIndexOf(' ', spoken) + 1;
            goesOn(spoken, words.substring(start));
        }
    }

    private static void goesOn(int spoken, String due) {
        Bench bench = new Bench();
        bench.add(0, BrailleDesk.LIVE, "");
        bench.desk.setManner(1, BrailleDesk.LOUD);
        bench.add(1, BrailleDesk.TEXT, "");
        bench.add(0, BrailleDesk.TEXT, "ab cde");
        bench.desk.setRule(3, BrailleDesk.MORE);
        while (bench.desk.cursor() != 3) {
            bench.next();
        }
        bench.desk.tick(spoken);
        int dropped = bench.desk.dropped();
        bench.rename(2, "!");
        checks.same("41: waits again at " + spoken, "0 1 1", bench.waiting());
        checks.same("39: cut at " + spoken, NONE, bench.desk.speaking());
        checks.same("40: cut at " + spoken, 0, bench.desk.left());
        checks.same("44: not dropped at " + spoken, dropped, bench.desk.dropped());
        checks.same("37: the ALERT first at " + spoken, "!", bench.listen(1));
        bench.desk.tick(1);
        checks.same("40: it goes on at " + spoken, due.length() - 1, bench.desk.left());
        checks.same("43: with the word at " + spoken, due.codePointAt(0), bench.desk.heardAt(0));
        checks.same("37: to its end at " + spoken, due.substring(1), bench.listen(50));
    }

    private static void goingOnAtSpaces() {
        Bench bench = regions();
        bench.add(0, BrailleDesk.TEXT, "  a  b ");
        while (bench.desk.cursor() != 19) {
            bench.next();
        }
        bench.hush();
        String[] due = {"  a  b ", " a  b ", "a  b ", "  b ", " b ", "b ", " "};
        for (int spoken = 1; spoken < 7; spoken++) {
            bench.again();
            bench.desk.tick(spoken);
            alert(bench, spoken % 2 == 0 ? "!" : "?");
            bench.desk.tick(1);
            checks.same("37: goes on behind spaces at " + spoken, due[spoken], bench.listen(50));
        }
        bench.again();
        bench.desk.tick(3);
        alert(bench, "1");
        bench.desk.tick(2);
        alert(bench, "2");
        bench.desk.tick(1);
        checks.same("37: cut twice", " b ", bench.listen(50));
        bench.again();
        bench.desk.tick(1);
        alert(bench, "3");
        int dropped = bench.desk.dropped();
        bench.again();
        checks.same("44: one that waits again is dropped by another", dropped + 1, bench.desk.dropped());
        checks.same("37: which begins with its first character", "3  a  b ", bench.listen(50));
    }

    private static void order() {
        Bench bench = regions();
        news(bench, 0, "news");
        bench.act();
        alert(bench, "alert");
        checks.same("41: each of them", "1 1 1", bench.waiting());
        checks.same("37: ALERT, ANSWER, NEWS", "alertnonenews", bench.listen(50));
        checks.same("42: all", 13, bench.desk.heard());
        checks.same("44: none", 0, bench.desk.dropped());
    }

    private static void hush() {
        Bench bench = regions();
        bench.hush();
        checks.same("44: silence", 0, bench.desk.dropped());
        for (int i = 0; i < 3; i++) {
            news(bench, i, "news");
        }
        bench.desk.tick(1);
        bench.hush();
        checks.same("44: NEWS that wait, and one that is being spoken", 3, bench.desk.dropped());
        checks.same("41: none waits", "0 0 0", bench.waiting());
        checks.same("39: none is spoken", NONE, bench.desk.speaking());
        bench.act();
        bench.hush();
        checks.same("44: an ANSWER that waits", 4, bench.desk.dropped());
        bench.act();
        bench.desk.tick(1);
        bench.hush();
        checks.same("44: an ANSWER that is being spoken", 5, bench.desk.dropped());
        checks.same("37: silence then", 0, bench.desk.tick(9));
        alert(bench, "one");
        alert(bench, "two");
        bench.desk.tick(1);
        bench.act();
        news(bench, 4, "news");
        bench.hush();
        checks.same("44: an ANSWER and a NEWS beside ALERTs", 7, bench.desk.dropped());
        checks.same("37: ALERTs stay", "netwo", bench.listen(50));
    }

    private static void manyAlerts() {
        Bench bench = regions();
        bench.add(1, BrailleDesk.CHECK, "c");
        for (int i = 0; i < 18; i++) {
            alert(bench, "" + (char) ('a' + i));
        }
        bench.desk.hide(2, true);
        checks.same("41: twenty", 20, bench.desk.waiting(ALERT));
        checks.state("3: 20 ALERTs wait", () -> bench.desk.add(0, 0, BrailleDesk.TEXT));
        checks.state("4: 20 ALERTs wait", () -> bench.desk.remove(2));
        checks.state("5: 20 ALERTs wait", () -> bench.desk.hide(2, false));
        checks.state("5: 20 ALERTs wait, and nothing to do", () -> bench.desk.hide(2, true));
        checks.state("6: 20 ALERTs wait", () -> bench.desk.rename(2));
        checks.state("7: 20 ALERTs wait", () -> bench.desk.set(19, true));
        checks.index("6: 20 ALERTs wait, and no such element", () -> bench.desk.rename(20));
        checks.argument("3: 20 ALERTs wait, and no such kind", () -> bench.desk.add(0, 0, 8));
        checks.same("8: not refused", -1, bench.desk.setRule(2, BrailleDesk.LESS));
        checks.same("9: not refused", 1, bench.desk.setManner(3, BrailleDesk.LOUD));
        checks.same("2: not refused", 1, bench.desk.draft('z'));
        bench.desk.tick(1);
        checks.same("41: nineteen", 19, bench.desk.waiting(ALERT));
        bench.points("14");
        bench.desk.remove(19);
        checks.same("41: two at once", 21, bench.desk.waiting(ALERT));
        checks.state("6: 21 ALERTs wait", () -> bench.desk.rename(2));
        checks.same("37: all in their order", " check offabcdefghijklmnopqrgone r", bench.listen(34));
        checks.same("37: the last ones", "gone clost livec check off", bench.listen(50));
    }
}
