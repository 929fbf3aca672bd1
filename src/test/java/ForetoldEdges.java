/** Boundary cases of promises 18 to 21: what is foretold. */
final class ForetoldEdges {
    private static final int NONE = RazorTalk.NONE, UNKNOWN = RazorTalk.UNKNOWN, OUTSIDE = RazorTalk.OUTSIDE;

    private ForetoldEdges() {
    }

    static void run() {
        smoothFewestAndMost();
        smoothNone();
        smoothOfSeveral();
        smoothByBeardsNow();
        smoothRefused();
        nextFirstAndLast();
        nextNone();
        nextOfThoseThatFit();
        nextRefused();
        meetNobody();
        meetAll();
        meetFewest();
        meetTheLowest();
        meetRefused();
        roundAllTurns();
        roundWhatStays();
        roundRefused();
    }

    private static void smoothFewestAndMost() {
        Edge.of(18, "so that m RUMOURS (1 .. 8) or more FIT");
        RazorTalk x = Check.told("plain 0" + ";rumour 0".repeat(8));
        for (int m = 1; m <= 8; m++) Check.due("smooth(0, 0, " + m + ") of 8", x.smooth(0, 0, m), 63);
        x = Check.told("plain 0" + ";rumour 0".repeat(7));
        Check.due("smooth(0, 0, 7) of 7", x.smooth(0, 0, 7), 63);
        Check.due("smooth(0, 0, 8) of 7", x.smooth(0, 0, 8), NONE);
        x = Check.told("plain 0;rumour 0;rumour 1;rumour 0");
        Check.due("smooth(1, 0, 2), two or more", x.smooth(1, 0, 2), 63);
        Check.due("smooth(1, 0, 3)", x.smooth(1, 0, 3), 62);
    }

    private static void smoothNone() {
        Edge.of(18, "a set of STRIPS (bits; none, too)");
        RazorTalk x = Check.told("plain 0;rumour 63;rumour 63");
        Check.due("smooth(0, 0, 1), only the empty set", x.smooth(0, 0, 1), 0);
        Check.due("smooth(0, 0, 2), only the empty set", x.smooth(0, 0, 2), 0);

        Edge.of(18, "NONE: behind no set (also not the empty one).");
        Check.due("smooth(0, 0, 3) of two", x.smooth(0, 0, 3), NONE);
        x.shave(0, 0, 4);
        Check.due("smooth(0, 0, 1), none fits", x.smooth(0, 0, 1), NONE);
        Check.due("smooth(1, 0, 1), another barber's", x.smooth(1, 0, 1), 0);
        x = Check.told("plain 0");
        Check.due("smooth(0, 0, 1), there is none", x.smooth(0, 0, 1), NONE);
    }

    private static void smoothOfSeveral() {
        Edge.of(18, "with most of them, of several the least, behind which so many FIT");
        RazorTalk x = Check.told("plain 0;rumour 1;rumour 2;rumour 32");
        // 62, 61 and 31 have five strips each.
        Check.due("smooth(0, 0, 1)", x.smooth(0, 0, 1), 31);
        // 60, 30 and 29 have four.
        Check.due("smooth(0, 0, 2)", x.smooth(0, 0, 2), 29);
        Check.due("smooth(0, 0, 3)", x.smooth(0, 0, 3), 28);
        x = Check.told("plain 0;rumour 3;rumour 32");
        Check.due("smooth(0, 0, 1), the one of five ahead of that of four", x.smooth(0, 0, 1), 31);
        x = Check.told("plain 0;rumour 1;rumour 48");
        Check.due("smooth(0, 0, 1), the greater one has more", x.smooth(0, 0, 1), 62);
    }

    private static void smoothByBeardsNow() {
        Edge.of(18, "all SHAVED by him now");
        RazorTalk x = Check.told("nicked 0;bailed 0;rumour 1;beard 0 0 5;beard 1 0 2");
        Check.due("smooth(0, 0, 1), told the other way round", x.smooth(0, 0, 1), 63);
        Check.due("smooth(0, 1, 1), nothing told", x.smooth(0, 1, 1), 63);
        x.day();
        Check.due("smooth(0, 1, 1), told", x.smooth(0, 1, 1), 62);
        x.shave(0, 0, 0);
        Check.due("knows(0, 0, 1)", x.knows(0, 0, 1), 1);
        Check.due("smooth(0, 0, 1), it would be told as it is", x.smooth(0, 0, 1), 62);
    }

    private static void smoothRefused() {
        Edge.of(18, "SMOOTH; NONE. UNKNOWN; OUTSIDE.");
        Edge.refused("smooth(3, 0, 1)", UNKNOWN, y -> y.smooth(3, 0, 1));
        Edge.refused("smooth(0, 2, 1)", UNKNOWN, y -> y.smooth(0, 2, 1));
        for (int m : new int[] {0, -1, 9, 10, Integer.MIN_VALUE, Integer.MAX_VALUE}) {
            Edge.refused("smooth(0, 0, " + m + ")", OUTSIDE, y -> y.smooth(0, 0, m));
            Edge.refused("smooth(3, 0, " + m + ")", UNKNOWN, y -> y.smooth(3, 0, m));
            Edge.refused("smooth(0, 2, " + m + ")", UNKNOWN, y -> y.smooth(0, 2, m));
        }
        for (int no : Edge.NOBODY) {
            Edge.refused("smooth(" + no + ", 0, 1)", UNKNOWN, y -> y.smooth(no, 0, 1));
            Edge.refused("smooth(0, " + no + ", 1)", UNKNOWN, y -> y.smooth(0, no, 1));
        }
        Edge.refused(RazorTalk::new, "smooth(0, 0, 0) of nobody", UNKNOWN, y -> y.smooth(0, 0, 0));

        Edge.of(18, "FORETOLD (nothing changes).");
        Edge.unchanged("smooth(0, 0, 1)", y -> y.smooth(0, 0, 1));
        Edge.unchanged("smooth(2, 1, 8)", y -> y.smooth(2, 1, 8));
    }

    private static void nextFirstAndLast() {
        Edge.of(19, "(those with 1, or those with 0) are fewest; of several the least");
        RazorTalk x = Check.told("plain 0;rumour 0;rumour 63");
        Check.due("next(0, 0), all strips part them", x.next(0, 0), 0);
        for (int strip = 0; strip < 6; strip++) {
            x = Check.told("plain 0" + (";rumour 0;rumour " + (1 << strip)).repeat(4));
            Check.due("next(0, 0), four and four", x.next(0, 0), strip);
            x = Check.told("plain 0;rumour 0" + (";rumour " + (1 << strip)).repeat(7));
            Check.due("next(0, 0), seven with 1", x.next(0, 0), strip);
            x = Check.told("plain 0" + ";rumour 0".repeat(7) + ";rumour " + (1 << strip));
            Check.due("next(0, 0), seven with 0", x.next(0, 0), strip);
        }
        x = Check.told("plain 0" + ";rumour 42".repeat(8));
        Check.due("next(0, 0), eight alike everywhere", x.next(0, 0), 0);

        Edge.of(19, "the STRIP that is not known");
        x = Check.told("plain 63;rumour 63;rumour 62");
        for (int strip = 0; strip < 5; strip++) {
            Check.due("next(1, 0), one is fit or all are alike", x.next(1, 0), strip);
            x.shave(1, 0, strip);
        }
        Check.due("next(1, 0), the last one", x.next(1, 0), 5);
        Check.due("next(0, 0), another barber's", x.next(0, 0), 0);
    }

    private static void nextNone() {
        Edge.of(19, "none (all are known, or no RUMOUR FITS)");
        RazorTalk x = Check.told("plain 0;rumour 0;rumour 0");
        for (int strip = 0; strip < 6; strip++) x.shave(0, 0, strip);
        Check.due("knows(0, 0, 2)", x.knows(0, 0, 2), 3);
        Check.due("next(0, 0), all are known", x.next(0, 0), NONE);
        x = Check.told("plain 0;rumour 1");
        Check.due("next(0, 0), one fits yet", x.next(0, 0), 0);
        x.shave(0, 0, 0);
        Check.due("next(0, 0), no rumour fits", x.next(0, 0), NONE);
        x = Check.told("plain 0");
        Check.due("next(0, 0), there is no rumour", x.next(0, 0), NONE);
    }

    private static void nextOfThoseThatFit() {
        Edge.of(19, "were it known as it is in each RUMOUR that FITS");
        RazorTalk x = Check.told("plain 0;rumour 5;rumour 5;rumour 0;rumour 2");
        Check.due("next(0, 0), two and two at strip 0", x.next(0, 0), 0);
        x.shave(0, 0, 0);
        Check.due("next(0, 0), one and one at strip 1", x.next(0, 0), 1);
    }

    private static void nextRefused() {
        Edge.of(19, "NEXT; NONE. UNKNOWN.");
        Edge.refused("next(3, 0)", UNKNOWN, y -> y.next(3, 0));
        Edge.refused("next(0, 2)", UNKNOWN, y -> y.next(0, 2));
        for (int no : Edge.NOBODY) {
            Edge.refused("next(" + no + ", 0)", UNKNOWN, y -> y.next(no, 0));
            Edge.refused("next(0, " + no + ")", UNKNOWN, y -> y.next(0, no));
        }
        Edge.refused(RazorTalk::new, "next(0, 0) of nobody", UNKNOWN, y -> y.next(0, 0));

        Edge.of(19, "FORETOLD (nothing changes).");
        Edge.unchanged("next(0, 0)", y -> y.next(0, 0));
        Edge.unchanged("next(2, 1)", y -> y.next(2, 1));
    }

    private static void meetNobody() {
        Edge.of(20, "the set of BARBERS (bits; none of them, too)");
        RazorTalk x = Check.told("town 4;plain 0;rumour 63");
        Check.due("meet(0, 0), there is no other one", x.meet(0, 0), 0);
        x.shave(0, 0, 0);
        Check.due("meet(0, 0), though barber 0 knows better", x.meet(0, 0), 0);

        Edge.of(20, "(another one of the same number is another one); none.");
        x = Check.told("town 1;plain 0" + ";rumour 0".repeat(8));
        for (int strip = 0; strip < 6; strip++) x.shave(0, 0, strip);
        for (int rumour = 0; rumour < 8; rumour++) Check.due("meet(0, " + rumour + ")", x.meet(0, rumour), NONE);
        x = Check.told("town 1;plain 0;rumour 0;rumour 1");
        Check.due("meet(0, 0), nothing is known", x.meet(0, 0), NONE);
        x.shave(0, 0, 0);
        Check.due("meet(0, 0), the only barber", x.meet(0, 0), 1);
        Check.due("meet(0, 1), which does not fit", x.meet(0, 1), NONE);
    }

    private static void meetAll() {
        Edge.of(20, "by what at least one of them knows");
        RazorTalk x = Check.told("town 4;plain 0;rumour 1;rumour 2;rumour 4;rumour 8;rumour 0;rumour 3;rumour 5;rumour 16");
        for (int barber = 0; barber < 4; barber++) x.shave(barber, 0, barber);
        Check.due("meet(0, 4), 16 fits yet", x.meet(0, 4), NONE);
        x.shave(3, 0, 4);
        Check.due("meet(0, 4), all of them", x.meet(0, 4), 15);
        for (int rumour = 0; rumour < 8; rumour++) {
            if (rumour != 4) Check.due("meet(0, " + rumour + "), which does not fit", x.meet(0, rumour), NONE);
        }
        Check.tell(x, "town 4;nicked 0;rumour 0;rumour 32");
        for (int n = 0; n < 5; n++) x.day();
        x.shave(3, 0, 5);
        Check.due("meet(0, 1), the last barber and the last strip", x.meet(0, 1), 8);
    }

    private static void meetFewest() {
        Edge.of(20, "the fewest, of as few the least, such that");
        RazorTalk x = Check.told("town 4;plain 0;rumour 0;rumour 1;rumour 2");
        x.shave(0, 0, 0);
        x.shave(1, 0, 1);
        Check.due("meet(0, 0), two of them", x.meet(0, 0), 3);
        x.shave(2, 0, 0);
        x.shave(3, 0, 1);
        Check.due("meet(0, 0), of as few the least", x.meet(0, 0), 3);
        x.shave(3, 0, 0);
        Check.due("meet(0, 0), the last one alone", x.meet(0, 0), 8);
        x.shave(2, 0, 1);
        Check.due("meet(0, 0), of two the least", x.meet(0, 0), 4);
        x.burn(3, 0);
        x.burn(2, 0);
        x.burn(0, 0);
        Check.due("meet(0, 0), nobody knows strip 0", x.meet(0, 0), NONE);
    }

    private static void meetTheLowest() {
        Edge.of(20, "(of several who know a STRIP, the lowest one)");
        RazorTalk x = Check.told("town 3;nicked 1;beard 0 0 5;rumour 0;rumour 1;rumour 2;rumour 3");
        x.shave(0, 0, 0);
        x.shave(1, 0, 0);
        x.shave(2, 0, 1);
        Check.due("meet(0, 0), by barber 0, told the other way round", x.meet(0, 0), 5);
        Check.due("meet(0, 1), by barber 1", x.meet(0, 1), 6);
        x.shave(0, 0, 1);
        x.talk(2, 1, 0);
        Check.due("meet(0, 0), one alone", x.meet(0, 0), 1);
        Check.due("meet(0, 1), one alone", x.meet(0, 1), 2);
        Check.due("meet(0, 2)", x.meet(0, 2), NONE);
        x = Check.told("town 2;nicked 1;beard 0 0 5;rumour 0;rumour 1;rumour 2;rumour 3");
        x.shave(0, 0, 0);
        x.shave(1, 0, 0);
        x.shave(1, 0, 1);
        Check.due("meet(0, 0), strip 0 by barber 0, strip 1 by barber 1", x.meet(0, 0), 3);
        Check.due("meet(0, 1), both strips by barber 1", x.meet(0, 1), 2);
        Check.due("meet(0, 3)", x.meet(0, 3), NONE);
    }

    private static void meetRefused() {
        Edge.of(20, "MEET; NONE. UNKNOWN.");
        Edge.refused("meet(2, 0)", UNKNOWN, y -> y.meet(2, 0));
        Edge.refused("meet(0, 3)", UNKNOWN, y -> y.meet(0, 3));
        for (int no : Edge.NOBODY) {
            Edge.refused("meet(" + no + ", 0)", UNKNOWN, y -> y.meet(no, 0));
            Edge.refused("meet(0, " + no + ")", UNKNOWN, y -> y.meet(0, no));
        }
        Edge.refused(RazorTalk::new, "meet(0, 0) of nobody", UNKNOWN, y -> y.meet(0, 0));
        Edge.refused(() -> Check.told("plain 1"), "meet(0, 0), there is no rumour", UNKNOWN, y -> y.meet(0, 0));

        Edge.of(20, "FORETOLD (nothing changes).");
        Edge.unchanged("meet(0, 0)", y -> y.meet(0, 0));
        Edge.unchanged("meet(1, 2)", y -> y.meet(1, 2));
    }

    private static void roundAllTurns() {
        Edge.of(21, "STRIP k by BARBER (k and i) modulo how many there are");
        for (int barbers = 1; barbers <= 4; barbers++) {
            for (int strip = 0; strip < 6; strip++) {
                RazorTalk x = Check.told("town " + barbers + ";plain 0;rumour 0;rumour " + (1 << strip));
                for (int i = 0; i < 6; i++) {
                    for (int j = 0; j < barbers; j++) {
                        Check.due("round(0, " + i + ", " + j + ") by strip " + strip + " of " + barbers,
                                x.round(0, i, j), (strip + i) % barbers == j ? 1 : 2);
                    }
                }
            }
        }

        Edge.of(21, "ROUND (i 0 .. 5), of BARBER j.");
        RazorTalk x = Check.told("town 4;plain 63" + ";rumour 63".repeat(8));
        Check.due("round(0, 0, 0), all eight", x.round(0, 0, 0), 8);
        Check.due("round(0, 5, 3), all eight", x.round(0, 5, 3), 8);
        x = Check.told("town 1;plain 63;rumour 0");
        Check.due("round(0, 5, 0), none", x.round(0, 5, 0), 0);
        x = Check.told("town 1;plain 63");
        Check.due("round(0, 0, 0), there is none", x.round(0, 0, 0), 0);
    }

    private static void roundWhatStays() {
        Edge.of(21, "(by their BEARDS now; what BARBERS know stays, but for what is TOLD)");
        RazorTalk x = Check.told("town 2;nicked 1;bailed 1;beard 0 0 5;beard 1 0 3;rumour 0;rumour 1");
        Check.due("round(0, 0, 0), rumour 0 only", x.round(0, 0, 0), 1);
        x.shave(0, 0, 0);
        Check.due("knows(0, 0, 2), rumour 0", x.knows(0, 0, 2), 1);
        Check.due("round(0, 0, 0), told in place of that", x.round(0, 0, 0), 1);
        Check.due("round(0, 1, 0), what he knows of strip 0 stays", x.round(0, 1, 0), 1);
        Check.due("round(0, 0, 1), strip 0 isn't his", x.round(0, 0, 1), 2);
        x.shave(0, 1, 0);
        Check.due("round(1, 0, 0), nothing told: what he knows stays", x.round(1, 0, 0), 1);
        Check.due("round(1, 1, 1), nothing told", x.round(1, 1, 1), 2);
        x = Check.told("town 1;nicked 1;beard 0 0 5;rumour 1;rumour 1;rumour 0");
        Check.due("round(0, 0, 0), by a beard of 5", x.round(0, 0, 0), 1);
        x.shave(0, 0, 0);
        Check.due("round(0, 0, 0), by a beard of 0", x.round(0, 0, 0), 2);
    }

    private static void roundRefused() {
        Edge.of(21, "UNKNOWN; OUTSIDE.");
        Edge.refused("round(2, 0, 0)", UNKNOWN, y -> y.round(2, 0, 0));
        Edge.refused("round(0, 0, 3)", UNKNOWN, y -> y.round(0, 0, 3));
        for (int no : Edge.NOBODY) {
            Edge.refused("round(" + no + ", 0, 0)", UNKNOWN, y -> y.round(no, 0, 0));
            Edge.refused("round(0, 0, " + no + ")", UNKNOWN, y -> y.round(0, 0, no));
            Edge.refused("round(0, " + no + ", 0)", OUTSIDE, y -> y.round(0, no, 0));
            Edge.refused("round(2, " + no + ", 0)", UNKNOWN, y -> y.round(2, no, 0));
            Edge.refused("round(0, " + no + ", 3)", UNKNOWN, y -> y.round(0, no, 3));
        }
        Edge.refused(RazorTalk::new, "round(0, 6, 0) of nobody", UNKNOWN, y -> y.round(0, 6, 0));

        Edge.of(21, "FORETOLD (nothing changes).");
        Edge.unchanged("round(0, 0, 0)", y -> y.round(0, 0, 0));
        Edge.unchanged("round(1, 5, 2)", y -> y.round(1, 5, 2));
    }
}
