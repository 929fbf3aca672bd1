/** Promises 22 to 26: what was seen. */
final class SeenTests {
    private static final int NONE = RazorTalk.NONE, UNKNOWN = RazorTalk.UNKNOWN, OUTSIDE = RazorTalk.OUTSIDE,
            FULL = RazorTalk.FULL;

    private SeenTests() {
    }

    static void run() {
        seen();
        forget();
        was();
        wasByAll();
        stays();
        staysByWhatIsKnown();
        staysRefused();
        count();
    }

    private static void seen() {
        Check.begin("promise 22");
        RazorTalk x = new RazorTalk();
        Check.due("seen(6, 10, 2)", x.seen(6, 10, 2), UNKNOWN);
        Check.due("seen(-1, 0, 0)", x.seen(-1, 0, 0), UNKNOWN);
        Check.due("seen(0, 10, 0)", x.seen(0, 10, 0), OUTSIDE);
        Check.due("seen(0, -1, 0)", x.seen(0, -1, 0), OUTSIDE);
        Check.due("seen(0, 0, 2)", x.seen(0, 0, 2), OUTSIDE);
        Check.due("seen(0, 0, -2)", x.seen(0, 0, -2), OUTSIDE);
        Check.due("count(6)", x.count(6), 0);
        Check.due("seen(0, 0, 0)", x.seen(0, 0, 0), 1);
        Check.due("seen(5, 9, 1)", x.seen(5, 9, 1), 2);
        Check.due("seen(2, 3, NONE)", x.seen(2, 3, NONE), 3);
        for (int n = 4; n <= 6; n++) Check.due("seen(0, 0, 0)", x.seen(0, 0, 0), n);
        Check.due("seen(0, 0, 0), a seventh", x.seen(0, 0, 0), FULL);
        Check.due("seen(0, 10, 0), a seventh", x.seen(0, 10, 0), OUTSIDE);
        Check.due("seen(6, 0, 0), a seventh", x.seen(6, 0, 0), UNKNOWN);
        Check.due("count(6)", x.count(6), 6);
    }

    private static void forget() {
        Check.begin("promise 23");
        RazorTalk x = Check.told("town 2;plain 0;plain 1");
        Check.due("forget() of nothing", x.forget(), 0);
        x.seen(0, 0, 1);
        x.seen(0, 0, 0);
        Check.due("was()", x.was(), 0);
        Check.due("forget()", x.forget(), 2);
        Check.due("was()", x.was(), 3);
        Check.due("forget() again", x.forget(), 0);
        Check.due("seen(0, 0, 1)", x.seen(0, 0, 1), 1);
        Check.due("was()", x.was(), 2);
    }

    private static void was() {
        Check.begin("promise 24");
        RazorTalk x = new RazorTalk();
        Check.due("was() of nobody", x.was(), 0);
        Check.tell(x, "plain 4;bailed 4;reserved 4;nicked 4;plain 0;nicked 0");
        Check.due("was(), nothing is seen", x.was(), 63);
        due(x, 2, 0, 1, 9);
        due(x, 2, 0, 0, 48);
        due(x, 2, 0, NONE, 6);
        due(x, 2, 2, NONE, 6);
        due(x, 2, 3, NONE, 4);
        due(x, 2, 3, 1, 11);
        due(x, 2, 4, 1, 11);
        due(x, 2, 5, 1, 35);
        due(x, 2, 5, 0, 24);
        due(x, 2, 9, 0, 24);
        due(x, 0, 9, 0, 23);
        due(x, 5, 2, 0, 61);
        x.day();
        due(x, 5, 2, 0, 61);
    }

    private static void due(RazorTalk x, int strip, int beard, int part, int want) {
        x.seen(strip, beard, part);
        Check.due("was() behind seen(" + strip + ", " + beard + ", " + part + ")", x.was(), want);
        x.forget();
    }

    private static void wasByAll() {
        Check.begin("promise 24, all that is seen");
        RazorTalk x = Check.told("plain 3;plain 1;bailed 3;nicked 1");
        x.seen(0, 3, 1);
        Check.due("was()", x.was(), 15);
        x.seen(1, 5, 1);
        Check.due("was()", x.was(), 13);
        x.seen(1, 0, 0);
        Check.due("was()", x.was(), 8);
        x.seen(1, 0, 0);
        Check.due("was(), seen twice", x.was(), 8);
        x.seen(0, 0, NONE);
        Check.due("was()", x.was(), 0);
    }

    private static void odds(RazorTalk x, int barber, int q, int above, int below) {
        Check.due("stays(" + barber + ", 0, " + q + ", 0)", x.stays(barber, 0, q, 0), above);
        Check.due("stays(" + barber + ", 0, " + q + ", 1)", x.stays(barber, 0, q, 1), below);
    }

    private static void stays() {
        Check.begin("promise 25");
        RazorTalk x = Check.told("town 2;plain 0;rumour 0;rumour 1");
        // Two fit as long as strip 0 is not shaved.
        odds(x, 0, 0, 1, 1);
        odds(x, 0, 1, 9, 10);
        odds(x, 0, 3, 7, 10);
        odds(x, 0, 5, 1, 2);
        odds(x, 0, 10, 0, 1);
        x = Check.told("town 2;plain 0;rumour 63;rumour 63");
        // Two fit as long as none is shaved.
        odds(x, 0, 5, 1, 64);
        odds(x, 0, 1, 531441, 1000000);
        odds(x, 0, 9, 1, 1000000);
        odds(x, 0, 8, 1, 15625);
        x = Check.told("town 2;plain 0;rumour 0;rumour 0");
        odds(x, 0, 10, 1, 1);
        odds(x, 0, 7, 1, 1);
        x = Check.told("town 2;plain 0;rumour 0;rumour 1;rumour 2");
        // Two fit unless strips 0 and 1 are both shaved.
        odds(x, 0, 5, 3, 4);
        odds(x, 0, 2, 24, 25);
        x = Check.told("town 2;plain 0;rumour 0");
        odds(x, 0, 0, 0, 1);
        odds(x, 0, 5, 0, 1);
    }

    private static void staysByWhatIsKnown() {
        Check.begin("promise 25, what is known");
        RazorTalk x = Check.told("town 2;nicked 0;rumour 0;rumour 2;beard 0 0 5;beard 0 1 9");
        // Two fit as long as neither strip 0, told as 1, nor strip 1 is shaved.
        odds(x, 0, 1, 81, 100);
        x.shave(0, 0, 0);
        odds(x, 0, 0, 0, 1);
        // What he knows is wrong: strip 0 must be shaved, which tells 0 now, and strip 1 not.
        odds(x, 0, 1, 9, 100);
        odds(x, 0, 5, 1, 4);
        odds(x, 1, 1, 9, 10);
        x = Check.told("town 2;reserved 4;rumour 0;rumour 4");
        odds(x, 0, 10, 1, 1);
        x = Check.told("town 2;bailed 4;rumour 0;rumour 4;beard 0 2 2");
        odds(x, 0, 10, 1, 1);
        x.day();
        odds(x, 0, 10, 0, 1);
        odds(x, 0, 4, 3, 5);
    }

    private static void staysRefused() {
        Check.begin("promise 25, refused");
        RazorTalk x = Check.told("town 2;plain 0;rumour 0;rumour 0");
        Check.due("stays(2, 0, 5, 0)", x.stays(2, 0, 5, 0), UNKNOWN);
        Check.due("stays(-1, 0, 5, 2)", x.stays(-1, 0, 5, 2), UNKNOWN);
        Check.due("stays(0, 1, 11, 0)", x.stays(0, 1, 11, 0), UNKNOWN);
        Check.due("stays(0, -1, 5, 0)", x.stays(0, -1, 5, 0), UNKNOWN);
        Check.due("stays(0, 0, 11, 0)", x.stays(0, 0, 11, 0), OUTSIDE);
        Check.due("stays(0, 0, -1, 0)", x.stays(0, 0, -1, 0), OUTSIDE);
        Check.due("stays(0, 0, 5, 2)", x.stays(0, 0, 5, 2), OUTSIDE);
        Check.due("stays(0, 0, 5, -1)", x.stays(0, 0, 5, -1), OUTSIDE);
    }

    private static void count() {
        Check.begin("promise 26");
        RazorTalk x = Check.told("town 3;plain 1;plain 2;plain 3;plain 4;rumour 5;beard 0 1 9;beard 3 0 2");
        x.day();
        x.day();
        x.shave(2, 3, 0);
        x.shave(2, 3, 1);
        x.shave(0, 0, 5);
        x.seen(0, 0, 0);
        Check.write(x, "to wn");
        // Beards: 9 and four of 2; twice six of 2; four of 2.
        int[] due = {3, 4, 1, 2, 49, 3, 1, 5, 5};
        for (int what = 0; what < due.length; what++) Check.due("count(" + what + ")", x.count(what), due[what]);
        Check.due("count(-1)", x.count(-1), OUTSIDE);
        Check.due("count(9)", x.count(9), OUTSIDE);
        x.undo();
        Check.due("count(4)", x.count(4), 51);
        Check.due("count(5)", x.count(5), 2);
        Check.due("count(7)", x.count(7), 4);
    }
}
