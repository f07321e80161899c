/** Promises 3 to 7 and 9, 37 and 45: what regions tell, when, and what is swallowed. */
public final class RegionsTest {
    private static final Checks checks = new Checks("RegionsTest");
    private static final int GROUP = BrailleDesk.GROUP, TEXT = BrailleDesk.TEXT, BUTTON = BrailleDesk.BUTTON;
    private static final int CHECK = BrailleDesk.CHECK, LIVE = BrailleDesk.LIVE;
    private static final int NEWS = BrailleDesk.NEWS, ALERT = BrailleDesk.ALERT;
    private static final int QUIET = BrailleDesk.QUIET, POLITE = BrailleDesk.POLITE, LOUD = BrailleDesk.LOUD;

    public static void main(String[] args) {
        whatIsTold();
        whatIsNotTold();
        whoTells();
        hiddenElements();
        aheadOfLost();
        quiet();
        keeping();
        intervals();
        byNumbers();
        hiddenRegions();
        swallowing();
        loudDoesNotCount();
        checks.finish();
    }

    /** The LIVE 1, LOUD, with the GROUP 2 in it. */
    private static Bench loud() {
        Bench bench = new Bench();
        bench.add(0, LIVE, "l");
        bench.add(1, GROUP, "g");
        bench.listen(50);
        bench.desk.setManner(1, LOUD);
        return bench;
    }

    private static void told(String what, Bench bench, String due) {
        checks.same(what + ", an ALERT", due.isEmpty() ? "0 0 0" : "0 0 1", bench.waiting());
        checks.same(what, due, bench.listen(50));
    }

    private static void whatIsTold() {
        Bench bench = loud();
        bench.add(1, CHECK, "c");
        told("3: added", bench, "c check off");
        bench.desk.set(3, true);
        told("7: on", bench, "c check on");
        bench.desk.set(3, false);
        told("7: off", bench, "c check off");
        bench.rename(3, "d");
        told("6: renamed", bench, "d check off");
        bench.desk.rename(3);
        told("6: without a name", bench, "check off");
        bench.desk.setRule(0, BrailleDesk.MORE);
        bench.desk.hide(2, true);
        told("5: hidden", bench, "gone g");
        bench.desk.hide(2, false);
        told("5: not hidden any more", bench, "g group 1 of 2");
        bench.desk.setRule(0, BrailleDesk.LESS);
        bench.desk.hide(3, true);
        told("5: hidden without a name", bench, "gone check");
        bench.desk.hide(3, false);
        told("5: shown without a name", bench, "check off");
        bench.desk.remove(3);
        told("4: removed without a name", bench, "gone check");
        bench.add(2, BUTTON, "b");
        told("3: added below, by LESS", bench, "b");
        bench.desk.remove(2);
        told("4: removed with all below it", bench, "gone g");
        bench.add(1, TEXT, "");
        told("3: without words", bench, "");
        bench.desk.hide(5, true);
        told("5: a TEXT without a name", bench, "gone");
        bench.desk.hide(5, false);
        told("5: shown without words", bench, "");
        bench.rename(5, "t");
        told("6: a TEXT", bench, "t");
        bench.desk.rename(5);
        told("6: no words any more", bench, "");
        bench.desk.remove(5);
        told("4: a TEXT without a name", bench, "gone");
    }

    private static void whatIsNotTold() {
        Bench bench = loud();
        bench.add(1, CHECK, "c");
        bench.listen(50);
        bench.desk.set(3, false);
        bench.rename(3, "c");
        bench.desk.hide(3, false);
        bench.desk.setRule(3, BrailleDesk.MORE);
        bench.desk.setManner(1, LOUD);
        bench.draft("x");
        told("6: the same as before", bench, "");
        while (bench.desk.cursor() != 3) {
            bench.next();
        }
        bench.hush();
        bench.act();
        checks.same("7: on, but not by set()", "0 1 0", bench.waiting());
        bench.hush();
        bench.desk.hide(3, true);
        bench.listen(50);
        bench.desk.hide(3, true);
        told("5: hidden again", bench, "");
        bench.add(0, BUTTON, "out");
        bench.rename(1, "live");
        bench.desk.hide(4, true);
        bench.desk.remove(4);
        told("6: in no region", bench, "");
    }

    private static void whoTells() {
        Bench bench = loud();
        bench.add(2, LIVE, "in");
        told("3: a LIVE in a region", bench, "in live");
        bench.add(3, TEXT, "t");
        checks.same("3: the nearest region", "1 0 0", bench.waiting());
        bench.listen(50);
        bench.rename(3, "new");
        told("6: a LIVE is not its own region", bench, "new live");
        bench.desk.hide(4, true);
        checks.same("5: the nearest region", "1 0 0", bench.waiting());
        bench.listen(50);
        bench.desk.setManner(3, QUIET);
        bench.rename(4, "q");
        bench.desk.hide(4, false);
        told("9: the nearest region is QUIET", bench, "");
        bench.desk.remove(3);
        told("4: a LIVE is gone", bench, "gone new");
    }

    private static void hiddenElements() {
        Bench bench = loud();
        bench.add(2, CHECK, "c");
        bench.listen(50);
        bench.desk.hide(3, true);
        bench.listen(50);
        bench.rename(3, "d");
        bench.desk.set(3, true);
        told("6: hidden", bench, "");
        bench.desk.hide(2, true);
        told("5: the GROUP", bench, "gone g");
        bench.desk.hide(3, false);
        bench.add(2, TEXT, "t");
        bench.desk.hide(4, true);
        bench.desk.hide(4, false);
        bench.desk.remove(4);
        told("5: below what is hidden", bench, "");
        bench.desk.hide(2, false);
        told("5: with what is below it", bench, "g group");
        bench.desk.hide(1, true);
        bench.rename(2, "x");
        bench.desk.remove(3);
        bench.desk.remove(2);
        told("4: in a region that is hidden", bench, "");
        bench.desk.hide(1, false);
        bench.add(1, TEXT, "t");
        bench.listen(50);
        bench.desk.hide(5, true);
        bench.listen(50);
        bench.desk.remove(5);
        told("4: what was hidden", bench, "");
    }

    private static void aheadOfLost() {
        Bench bench = loud();
        bench.next();
        bench.next();
        bench.hush();
        bench.desk.remove(2);
        checks.same("28: two ALERTs", 2, bench.desk.waiting(ALERT));
        checks.same("28: what is told comes ahead of the lost cursor", "gone glost l live", bench.listen(50));
        bench.add(1, TEXT, "t");
        bench.next();
        bench.listen(50);
        bench.desk.hide(3, true);
        checks.same("28: when it is hidden, too", "gone tlost l live", bench.listen(50));
    }

    private static void quiet() {
        Bench bench = loud();
        checks.same("9: LOUD", LOUD, bench.desk.setManner(1, QUIET));
        bench.rename(2, "x");
        bench.add(2, TEXT, "t");
        bench.desk.remove(3);
        told("9: QUIET", bench, "");
        checks.same("45: none", 0, bench.desk.swallowed());
    }

    /** The LIVE 1, POLITE, with the TEXT 2 in it, which was told by a NEWS that came at the time 0. */
    private static Bench polite() {
        Bench bench = new Bench();
        bench.add(0, LIVE, "");
        bench.add(1, TEXT, "0");
        return bench;
    }

    private static void keeping() {
        Bench bench = polite();
        checks.same("41: the first one at once", 1, bench.desk.waiting(NEWS));
        bench.rename(2, "a");
        checks.same("41: the second one is kept", 1, bench.desk.waiting(NEWS));
        checks.same("45: none", 0, bench.desk.swallowed());
        bench.rename(2, "b");
        checks.same("45: in place of what it kept", 1, bench.desk.swallowed());
        bench.rename(2, "");
        checks.same("45: an empty text is not told", 1, bench.desk.swallowed());
        checks.same("37: until the fourth tick", "0", bench.listen(4));
        checks.same("41: still kept", 0, bench.desk.waiting(NEWS));
        checks.same("37: with the fifth tick it comes and is spoken", "b", bench.listen(1));
        checks.same("37: once", "", bench.listen(50));
        checks.same("45: one in all", 1, bench.desk.swallowed());
    }

    private static void intervals() {
        Bench bench = polite();
        bench.listen(4);
        bench.rename(2, "a");
        checks.same("41: 4 ticks ago", 0, bench.desk.waiting(NEWS));
        checks.same("37: kept for one tick", "a", bench.listen(1));
        bench.rename(2, "b");
        checks.same("41: what was kept counts as the last", 0, bench.desk.waiting(NEWS));
        checks.same("37: not yet", "", bench.listen(4));
        checks.same("37: five ticks later", "b", bench.listen(1));
        bench.listen(5);
        bench.rename(2, "c");
        checks.same("41: 5 ticks ago", 1, bench.desk.waiting(NEWS));
        checks.same("37: at once", "c", bench.listen(1));
        bench.rename(2, "d");
        bench.desk.set(bench.add(0, CHECK, "x"), true);
        checks.same("41: kept again", 0, bench.desk.waiting(NEWS));
        checks.same("37: it is as it was then", "d", bench.listen(50));
        bench.listen(50);
        bench.rename(2, "e");
        checks.same("41: long ago", 1, bench.desk.waiting(NEWS));
        bench.rename(2, "f");
        bench.hush();
        checks.same("37: what is kept is not hushed", "f", bench.listen(50));
    }

    private static void byNumbers() {
        Bench bench = new Bench();
        for (int i = 0; i < 6; i++) {
            bench.addAt(0, 0, LIVE, "");
        }
        for (int i = 1; i <= 6; i++) {
            bench.add(i, TEXT, "");
            bench.rename(6 + i, "" + i);
        }
        for (int i = 6; i >= 1; i--) {
            bench.rename(6 + i, "" + (char) ('a' + i));
        }
        checks.same("44: the first NEWS", 1, bench.desk.dropped());
        checks.same("37: the others", "2345", bench.listen(4));
        checks.same("37: six come by rising numbers, ahead of what begins", "c", bench.listen(1));
        checks.same("44: the last of the others, and the first of the six", 3, bench.desk.dropped());
        checks.same("41: the others wait", 4, bench.desk.waiting(NEWS));
        checks.same("37: in their order", "defg", bench.listen(50));
    }

    private static void hiddenRegions() {
        Bench bench = polite();
        bench.rename(2, "a");
        bench.desk.hide(1, true);
        checks.same("45: not yet", 0, bench.desk.swallowed());
        checks.same("37: four ticks", "0", bench.listen(4));
        checks.same("45: still not", 0, bench.desk.swallowed());
        checks.same("37: not shown at that time", "", bench.listen(1));
        checks.same("45: swallowed instead", 1, bench.desk.swallowed());
        bench.desk.hide(1, false);
        bench.rename(2, "b");
        checks.same("41: it did so last at the time 0", 1, bench.desk.waiting(NEWS));
        bench.rename(2, "c");
        bench.desk.hide(1, true);
        bench.listen(4);
        bench.desk.hide(1, false);
        checks.same("37: shown again in time", "c", bench.listen(1));
        bench.rename(2, "d");
        bench.desk.hide(2, true);
        checks.same("45: in place of it", 2, bench.desk.swallowed());
        checks.same("37: a hidden element, told by a region that is shown", "gone d", bench.listen(50));
        bench.desk.hide(2, false);
        checks.same("41: shown again", 1, bench.desk.waiting(NEWS));
    }

    private static void swallowing() {
        Bench bench = polite();
        bench.desk.setManner(1, POLITE);
        checks.same("45: nothing kept", 0, bench.desk.swallowed());
        bench.rename(2, "a");
        bench.desk.setManner(1, POLITE);
        checks.same("45: when the manner is set", 1, bench.desk.swallowed());
        bench.rename(2, "b");
        bench.desk.setManner(1, LOUD);
        checks.same("45: when it is LOUD", 2, bench.desk.swallowed());
        bench.desk.setManner(1, POLITE);
        checks.same("45: once", 2, bench.desk.swallowed());
        bench.rename(2, "c");
        bench.desk.remove(1);
        checks.same("45: when the region is removed", 3, bench.desk.swallowed());
        checks.same("37: nothing is left but the first", "0", bench.listen(50));
        Bench below = new Bench();
        below.add(0, GROUP, "");
        below.add(1, LIVE, "");
        below.add(2, TEXT, "a");
        below.add(2, TEXT, "b");
        below.add(1, LIVE, "");
        below.add(5, LIVE, "c");
        below.add(5, LIVE, "d");
        checks.same("45: kept by two", 0, below.desk.swallowed());
        below.desk.remove(1);
        checks.same("45: with what is removed above", 2, below.desk.swallowed());
        Bench child = polite();
        child.rename(2, "a");
        child.desk.remove(2);
        checks.same("45: in place of it, by what is removed", 1, child.desk.swallowed());
        checks.same("37: it tells of it", "0gone a", child.listen(50));
    }

    private static void loudDoesNotCount() {
        Bench bench = loud();
        bench.rename(2, "a");
        bench.listen(50);
        bench.desk.setManner(1, POLITE);
        bench.rename(2, "b");
        checks.same("41: ALERTs do not count", "1 0 0", bench.waiting());
        Bench other = new Bench();
        other.add(0, LIVE, "");
        other.desk.setManner(1, LOUD);
        other.add(1, TEXT, "a");
        other.desk.setManner(1, POLITE);
        other.rename(2, "b");
        checks.same("41: it never let a NEWS come before", "1 0 1", other.waiting());
        other.rename(2, "c");
        checks.same("41: then it keeps", "1 0 1", other.waiting());
    }
}
