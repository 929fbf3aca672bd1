import java.util.function.Supplier;

/** Boundary cases of promises 22 to 26: what was seen, odds, counts. */
final class SeenEdges {
    private static final int NONE = RazorTalk.NONE, UNKNOWN = RazorTalk.UNKNOWN, OUTSIDE = RazorTalk.OUTSIDE,
            FULL = RazorTalk.FULL;

    private SeenEdges() {
    }

    static void run() {
        seenAtMost();
        seenBounds();
        forgetFewestAndMost();
        wasNothing();
        wasByEachBeard();
        wasByAll();
        staysByEach();
        staysOfTwo();
        staysInLowestTerms();
        staysRefused();
        countMost();
        countRefused();
    }

    private static RazorTalk sixSeen() {
        RazorTalk x = Edge.busy();
        for (int n = 3; n <= 6; n++) x.seen(0, 0, 1);
        return x;
    }

    /** All six are true of the only one; with a 0 in place of any they would not be. */
    private static RazorTalk sixTrue() {
        RazorTalk x = Check.told("plain 63");
        for (int strip = 0; strip < 6; strip++) x.seen(strip, 0, 1);
        Check.due("was() by six", x.was(), 1);
        return x;
    }

    private static void seenAtMost() {
        Edge.of(22, "SEEN, 6 at most");
        RazorTalk x = new RazorTalk();
        for (int n = 1; n <= 6; n++) Check.due("seen(5, 9, 1)", x.seen(5, 9, 1), n);
        Edge.refused(SeenEdges::sixSeen, "a seventh", FULL, y -> y.seen(0, 0, 0));
        Edge.refused(SeenEdges::sixSeen, "a seventh, of nothing told", FULL, y -> y.seen(5, 9, NONE));
        Edge.refused(SeenEdges::sixTrue, "a seventh that would not be so", FULL, y -> y.seen(0, 0, 0));
        Edge.refused(SeenEdges::sixTrue, "a seventh that would be so", FULL, y -> y.seen(0, 0, 1));
        x = sixSeen();
        x.forget();
        Check.due("seen(0, 0, 0) where six were", x.seen(0, 0, 0), 1);
        x = sixSeen();
        x.town();
        Check.due("seen(0, 0, 0) behind a text", x.seen(0, 0, 0), 1);

        Edge.of(22, "SEEN: how many. UNKNOWN (the STRIP); OUTSIDE; FULL.");
        Edge.refused(SeenEdges::sixSeen, "seen(6, 10, 2), a seventh", UNKNOWN, y -> y.seen(6, 10, 2));
        Edge.refused(SeenEdges::sixSeen, "seen(-1, 0, 0), a seventh", UNKNOWN, y -> y.seen(-1, 0, 0));
        Edge.refused(SeenEdges::sixSeen, "seen(0, 10, 0), a seventh", OUTSIDE, y -> y.seen(0, 10, 0));
        Edge.refused(SeenEdges::sixSeen, "seen(0, 0, 2), a seventh", OUTSIDE, y -> y.seen(0, 0, 2));
    }

    private static void seenBounds() {
        Edge.of(22, "with a BEARD (0 .. 9; NONE as the PART: nothing was TOLD)");
        RazorTalk x = new RazorTalk();
        Check.due("seen(0, 0, 0)", x.seen(0, 0, 0), 1);
        Check.due("seen(5, 9, 1)", x.seen(5, 9, 1), 2);
        Check.due("seen(0, 9, NONE)", x.seen(0, 9, NONE), 3);
        for (int no : Edge.NOBODY) {
            Edge.refused("seen(" + no + ", 0, 0)", UNKNOWN, y -> y.seen(no, 0, 0));
            Edge.refused("seen(" + no + ", 10, 2)", UNKNOWN, y -> y.seen(no, 10, 2));
        }
        for (int no : new int[] {-1, -2, 10, 11, Integer.MIN_VALUE, Integer.MAX_VALUE}) {
            Edge.refused("seen(0, " + no + ", 0)", OUTSIDE, y -> y.seen(0, no, 0));
        }
        for (int no : new int[] {2, 3, -2, -3, Integer.MIN_VALUE, Integer.MAX_VALUE}) {
            Edge.refused("seen(0, 0, " + no + ")", OUTSIDE, y -> y.seen(0, 0, no));
        }
    }

    private static void forgetFewestAndMost() {
        Edge.of(23, "SEEN is nothing: how many there were.");
        RazorTalk x = new RazorTalk();
        Check.due("forget() of a new one", x.forget(), 0);
        x.seen(0, 0, 1);
        Check.due("forget() of one", x.forget(), 1);
        Check.due("forget() again", x.forget(), 0);
        x = sixSeen();
        Check.due("was() by six", x.was(), 0);
        Check.due("forget() of six", x.forget(), 6);
        Check.due("was() behind forget()", x.was(), 3);
        Check.due("count(6)", x.count(6), 0);
        Check.due("count(7), nothing else changes", x.count(7), 4);
        Check.due("count(8), nothing else changes", x.count(8), 7);
    }

    private static void wasNothing() {
        Edge.of(24, "WAS: PEOPLE (bits) of whom all that is SEEN would be so.");
        RazorTalk x = new RazorTalk();
        Check.due("was() of nobody", x.was(), 0);
        x.seen(0, 0, 1);
        Check.due("was() of nobody, one is seen", x.was(), 0);
        x = Check.told("plain 0;bailed 0;reserved 0;nicked 0;plain 63;nicked 63");
        Check.due("was() of six, nothing is seen", x.was(), 63);
        x.seen(5, 0, 1);
        Check.due("was(), the last two", x.was(), 48);
        x.seen(5, 0, 0);
        Check.due("was(), none", x.was(), 0);
        Edge.unchanged("was()", RazorTalk::was);
    }

    /** Who was it, if only this is seen: by kinds, each with the part as 1, then with the part as 0. */
    private static void wasDue(int strip, int beard, int bailed, int reserved, int nicked) {
        int one = 1 << strip;
        int rest = 63 - one;
        for (int part = -1; part <= 1; part++) {
            for (int secret = 0; secret <= 1; secret++) {
                int number = secret == 1 ? one : rest;
                RazorTalk x = Check.told("plain " + number + ";bailed " + number + ";reserved " + number
                        + ";nicked " + number);
                x.seen(strip, beard, part);
                int other = 1 - secret;
                int due = (part == secret ? 1 : 0)
                        + (part == (bailed == NONE ? NONE : secret) ? 2 : 0)
                        + (part == (reserved == NONE ? NONE : secret) ? 4 : 0)
                        + (part == (nicked == 1 ? secret : other) ? 8 : 0);
                Check.due("was() by strip " + strip + ", beard " + beard + ", part " + part, x.was(), due);
            }
        }
    }

    private static void wasByEachBeard() {
        Edge.of(24, "of an unknown one a PART was TOLD as 0 or 1 by a STRIP with a BEARD");
        for (int strip = 0; strip < 6; strip++) {
            for (int beard = 0; beard <= 9; beard++) {
                wasDue(strip, beard, beard < 3 ? NONE : 1, strip == 2 ? NONE : 1, beard < 5 ? 1 : 0);
            }
        }
    }

    private static void wasByAll() {
        Edge.of(24, "all that is SEEN");
        RazorTalk x = Check.told("plain 63;bailed 63;reserved 63;nicked 63");
        int[][] seen = {{0, 3, 1, 15}, {0, 4, 1, 15}, {0, 5, 1, 7}, {2, 9, NONE, 4}, {5, 0, 1, 4}, {2, 9, 1, 0}};
        for (int[] one : seen) {
            x.seen(one[0], one[1], one[2]);
            Check.due("was() behind strip " + one[0] + ", beard " + one[1], x.was(), one[3]);
        }
        x.day();
        x.shave(0, 0, 0);
        x.forget();
        x.seen(0, 2, NONE);
        Check.due("was(), only the bailed one", x.was(), 2);
        x.day();
        x.undo();
        Check.due("was(), whatever is done", x.was(), 2);
    }

    private static void odds(RazorTalk x, int q, int above, int below) {
        Check.due("stays(0, 0, " + q + ", 0)", x.stays(0, 0, q, 0), above);
        Check.due("stays(0, 0, " + q + ", 1)", x.stays(0, 0, q, 1), below);
    }

    private static void staysByEach() {
        Edge.of(25, "if he SHAVES each STRIP of his now by q of ten (0 .. 10), by itself.");
        int[] above = {1, 9, 4, 7, 3, 1, 2, 3, 1, 1, 0};
        int[] below = {1, 10, 5, 10, 5, 2, 5, 10, 5, 10, 1};
        for (int strip = 0; strip < 6; strip++) {
            RazorTalk x = Check.told("plain 0;rumour 0;rumour " + (1 << strip));
            for (int q = 0; q <= 10; q++) odds(x, q, above[q], below[q]);
        }

        Edge.of(25, "by what a BARBER knows of one");
        RazorTalk x = Check.told("town 2;nicked 0;rumour 0;rumour 0;beard 0 0 5");
        x.shave(0, 0, 0);
        // What is known is wrong: two fit only if strip 0 is shaved again.
        for (int q = 0; q <= 10; q++) odds(x, q, above[10 - q], below[10 - q]);
        Check.due("stays(1, 0, 0, 0), another barber's", x.stays(1, 0, 0, 0), 1);
    }

    private static void staysOfTwo() {
        Edge.of(25, "that two RUMOURS or more (two of one number are two) FIT");
        RazorTalk x = Check.told("plain 0;rumour 0;rumour 0");
        for (int q = 0; q <= 10; q++) odds(x, q, 1, 1);
        x = Check.told("plain 0" + ";rumour 0".repeat(8));
        odds(x, 10, 1, 1);
        x = Check.told("plain 0;rumour 0;rumour 1;rumour 1;rumour 1");
        odds(x, 0, 1, 1);
        odds(x, 5, 1, 2);
        odds(x, 10, 0, 1);
        x = Check.told("plain 0;rumour 0");
        for (int q = 0; q <= 10; q++) odds(x, q, 0, 1);
        x = Check.told("plain 0");
        for (int q = 0; q <= 10; q++) odds(x, q, 0, 1);
    }

    private static void staysInLowestTerms() {
        Edge.of(25, "Parts (of odds) are told in lowest terms: above (part 0), below (1).");
        RazorTalk x = Check.told("plain 0;rumour 63;rumour 63");
        odds(x, 0, 1, 1);
        odds(x, 1, 531441, 1000000);
        odds(x, 2, 4096, 15625);
        odds(x, 3, 117649, 1000000);
        odds(x, 4, 729, 15625);
        odds(x, 5, 1, 64);
        odds(x, 6, 64, 15625);
        odds(x, 7, 729, 1000000);
        odds(x, 8, 1, 15625);
        odds(x, 9, 1, 1000000);
        odds(x, 10, 0, 1);
        Edge.unchanged("stays(0, 0, 5, 0)", y -> y.stays(0, 0, 5, 0));
        Edge.unchanged("stays(2, 1, 10, 1)", y -> y.stays(2, 1, 10, 1));
    }

    private static void staysRefused() {
        Edge.of(25, "STAYS. UNKNOWN; OUTSIDE.");
        Edge.refused("stays(3, 0, 5, 0)", UNKNOWN, y -> y.stays(3, 0, 5, 0));
        Edge.refused("stays(0, 2, 5, 0)", UNKNOWN, y -> y.stays(0, 2, 5, 0));
        for (int no : Edge.NOBODY) {
            Edge.refused("stays(" + no + ", 0, 5, 0)", UNKNOWN, y -> y.stays(no, 0, 5, 0));
            Edge.refused("stays(0, " + no + ", 5, 0)", UNKNOWN, y -> y.stays(0, no, 5, 0));
            Edge.refused("stays(0, 0, 5, " + no + ")", OUTSIDE, y -> y.stays(0, 0, 5, no));
            Edge.refused("stays(3, 0, 5, " + no + ")", UNKNOWN, y -> y.stays(3, 0, 5, no));
        }
        Edge.refused("stays(0, 0, 5, 2)", OUTSIDE, y -> y.stays(0, 0, 5, 2));
        for (int no : new int[] {-1, 11, Integer.MIN_VALUE, Integer.MAX_VALUE}) {
            Edge.refused("stays(0, 0, " + no + ", 0)", OUTSIDE, y -> y.stays(0, 0, no, 0));
            Edge.refused("stays(0, 2, " + no + ", 0)", UNKNOWN, y -> y.stays(0, 2, no, 0));
        }
        Edge.refused(RazorTalk::new, "stays(0, 0, 11, 2) of nobody", UNKNOWN, y -> y.stays(0, 0, 11, 2));
    }

    /** Six people with four barbers who know all of them, long beards, and all else there can be. */
    private static RazorTalk fullOfAll() {
        RazorTalk x = AskedEdges.fullTown();
        Check.tell(x, "rumour 1" + ";rumour 1".repeat(7));
        for (int barber = 0; barber < 4; barber++) {
            for (int person = 0; person < 6; person++) {
                for (int strip = 0; strip < 6; strip++) x.shave(barber, person, strip);
            }
        }
        for (int day = 1; day <= 9; day++) x.day();
        for (int n = 0; n < 6; n++) x.seen(0, 0, 0);
        Check.write(x, "x".repeat(160));
        return x;
    }

    private static void countDue(Supplier<RazorTalk> made, int... due) {
        RazorTalk x = made.get();
        for (int what = 0; what < due.length; what++) Check.due("count(" + what + ")", x.count(what), due[what]);
    }

    private static void countMost() {
        Edge.of(26, "0 BARBERS, 1 PEOPLE, 2 RUMOURS, 3 the DAY, 4 all BEARDS together");
        countDue(RazorTalk::new, 2, 0, 0, 0, 0);
        countDue(() -> Check.told("town 1"), 1, 0, 0, 0, 0);
        countDue(SeenEdges::fullOfAll, 4, 6, 8, 9, 324);
        countDue(Edge::busy, 3, 2, 3, 1, 17);

        Edge.of(26, "5 STRIPS known (of each BARBER and each of PEOPLE), 6 SEEN, 7 how many can be undone, 8 letters of THE TEXT.");
        RazorTalk x = fullOfAll();
        Check.due("count(5)", x.count(5), 144);
        Check.due("count(6)", x.count(6), 6);
        Check.due("count(7)", x.count(7), 8);
        Check.due("count(8)", x.count(8), 160);
        x = Edge.busy();
        Check.due("count(5)", x.count(5), 3);
        Check.due("count(6)", x.count(6), 2);
        Check.due("count(7)", x.count(7), 4);
        Check.due("count(8)", x.count(8), 7);
    }

    private static void countRefused() {
        Edge.of(26, "8 letters of THE TEXT. OUTSIDE.");
        Edge.refused("count(9)", OUTSIDE, y -> y.count(9));
        for (int no : new int[] {-1, 10, 64, Integer.MIN_VALUE, Integer.MAX_VALUE}) {
            Edge.refused("count(" + no + ")", OUTSIDE, y -> y.count(no));
        }
        Edge.refused(RazorTalk::new, "count(-1) of a new one", OUTSIDE, y -> y.count(-1));
        for (int what = 0; what <= 8; what++) {
            int asked = what;
            Edge.unchanged("count(" + what + ")", y -> y.count(asked));
        }
    }
}
