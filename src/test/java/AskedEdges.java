/** Boundary cases of promises 6 to 10: what is asked of people, strips, rumours and barbers. */
final class AskedEdges {
    private static final int NONE = RazorTalk.NONE, UNKNOWN = RazorTalk.UNKNOWN, OUTSIDE = RazorTalk.OUTSIDE,
            NOT = RazorTalk.NOT;

    private AskedEdges() {
    }

    static void run() {
        personOfAll();
        personRefused();
        beards();
        rumours();
        knowsFewestAndMost();
        knowsRefused();
        takenAs();
        takenByBeards();
        takenRefused();
    }

    private static void personOfAll() {
        Edge.of(6, "KIND (what 0), the SECRET (1), STRIPS without a BEARD (2, bits), all BEARDS together (3).");
        RazorTalk x = Check.told("plain 0;bailed 63;reserved 1;nicked 32;plain 63;nicked 0;beard 5 0 1;beard 5 5 9");
        int[] kinds = {0, 1, 2, 3, 0, 3};
        int[] secrets = {0, 63, 1, 32, 63, 0};
        for (int person = 0; person < 6; person++) {
            Check.due("person(" + person + ", 0)", x.person(person, 0), kinds[person]);
            Check.due("person(" + person + ", 1)", x.person(person, 1), secrets[person]);
        }
        Check.due("person(0, 2), all without a beard", x.person(0, 2), 63);
        Check.due("person(0, 3), all without a beard", x.person(0, 3), 0);
        Check.due("person(5, 2)", x.person(5, 2), 30);
        Check.due("person(5, 3)", x.person(5, 3), 10);
        for (int day = 1; day <= 9; day++) x.day();
        Check.due("person(0, 2), none without a beard", x.person(0, 2), 0);
        Check.due("person(0, 3), all as long as can be", x.person(0, 3), 54);
        Check.due("person(5, 3), all as long as can be", x.person(5, 3), 54);
        for (int what = 0; what < 4; what++) {
            int asked = what;
            Edge.unchanged("person(1, " + what + ")", y -> y.person(1, asked));
        }
    }

    private static void personRefused() {
        Edge.of(6, "UNKNOWN; OUTSIDE.");
        Edge.refused("person(2, 0)", UNKNOWN, y -> y.person(2, 0));
        Edge.refused("person(0, 4)", OUTSIDE, y -> y.person(0, 4));
        for (int no : Edge.NOBODY) {
            Edge.refused("person(" + no + ", 0)", UNKNOWN, y -> y.person(no, 0));
            Edge.refused("person(0, " + no + ")", OUTSIDE, y -> y.person(0, no));
            Edge.refused("person(" + no + ", 4)", UNKNOWN, y -> y.person(no, 4));
        }
        Edge.refused(RazorTalk::new, "person(0, 0) of nobody", UNKNOWN, y -> y.person(0, 0));
    }

    private static void beards() {
        Edge.of(7, "on each a BEARD of 0 .. 9");
        RazorTalk x = Check.told("plain 0;plain 0;plain 0;plain 0;plain 0;plain 0;beard 5 5 9;beard 0 0 1;beard 0 1 0");
        Check.due("beard(5, 5)", x.beard(5, 5), 9);
        Check.due("beard(5, 4)", x.beard(5, 4), 0);
        Check.due("beard(0, 0)", x.beard(0, 0), 1);
        Check.due("beard(0, 1)", x.beard(0, 1), 0);
        Edge.unchanged("beard(0, 0)", y -> y.beard(0, 0));

        Edge.of(7, "The BEARD on a STRIP of one. UNKNOWN.");
        Edge.refused("beard(2, 0)", UNKNOWN, y -> y.beard(2, 0));
        for (int no : Edge.NOBODY) {
            Edge.refused("beard(" + no + ", 0)", UNKNOWN, y -> y.beard(no, 0));
            Edge.refused("beard(0, " + no + ")", UNKNOWN, y -> y.beard(0, no));
        }
        Edge.refused(RazorTalk::new, "beard(0, 0) of nobody", UNKNOWN, y -> y.beard(0, 0));
    }

    private static void rumours() {
        Edge.of(8, "A RUMOUR. UNKNOWN.");
        RazorTalk x = Check.told("rumour 0;rumour 63;rumour 0;rumour 63;rumour 0;rumour 63;rumour 1;rumour 32");
        Check.due("rumour(0)", x.rumour(0), 0);
        Check.due("rumour(1)", x.rumour(1), 63);
        Check.due("rumour(6)", x.rumour(6), 1);
        Check.due("rumour(7)", x.rumour(7), 32);
        Check.due("rumour(8)", x.rumour(8), UNKNOWN);
        Edge.unchanged("rumour(2)", y -> y.rumour(2));
        Edge.refused("rumour(3)", UNKNOWN, y -> y.rumour(3));
        for (int no : Edge.NOBODY) Edge.refused("rumour(" + no + ")", UNKNOWN, y -> y.rumour(no));
        Edge.refused(RazorTalk::new, "rumour(0) where there is none", UNKNOWN, y -> y.rumour(0));
    }

    private static void knowsFewestAndMost() {
        Edge.of(9, "RUMOURS that FIT (2, bits)");
        RazorTalk x = Check.told("plain 63;rumour 63;rumour 62;rumour 31;rumour 0;rumour 63;rumour 1;rumour 32;rumour 63");
        Check.due("knows(1, 0, 0), nothing", x.knows(1, 0, 0), 0);
        Check.due("knows(1, 0, 1), nothing", x.knows(1, 0, 1), 0);
        Check.due("knows(1, 0, 2), all eight fit", x.knows(1, 0, 2), 255);
        x.shave(1, 0, 0);
        Check.due("knows(1, 0, 2), by strip 0", x.knows(1, 0, 2), 181);
        x.shave(1, 0, 5);
        Check.due("knows(1, 0, 2), by strip 5", x.knows(1, 0, 2), 145);
        for (int strip = 1; strip < 5; strip++) x.shave(1, 0, strip);
        Check.due("knows(1, 0, 0), all strips", x.knows(1, 0, 0), 63);
        Check.due("knows(1, 0, 1), all are 1", x.knows(1, 0, 1), 63);
        Check.due("knows(1, 0, 2), all strips", x.knows(1, 0, 2), 145);
        x = Check.told("plain 0;rumour 63");
        x.shave(0, 0, 0);
        Check.due("knows(0, 0, 1), a 0 is none of them", x.knows(0, 0, 1), 0);
        Check.due("knows(0, 0, 2), none fits", x.knows(0, 0, 2), 0);
        x = Check.told("plain 0");
        Check.due("knows(0, 0, 2), there is none", x.knows(0, 0, 2), 0);

        Edge.of(9, "What a BARBER knows of one: STRIPS (what 0, bits), PARTS that are 1 of these (1, bits)");
        x = fullTown();
        allKnowOneStrip(x);
        for (int barber = 0; barber < 4; barber++) {
            for (int person = 0; person < 6; person++) {
                int due = 1 << (barber + person) % 6;
                Check.due("knows(" + barber + ", " + person + ", 0)", x.knows(barber, person, 0), due);
                Check.due("knows(" + barber + ", " + person + ", 1)", x.knows(barber, person, 1), person < 3 ? due : 0);
            }
        }
    }

    /** Four barbers, six people: three of secret 63, three of secret 0. */
    static RazorTalk fullTown() {
        return Check.told("town 4;plain 63;plain 63;plain 63;plain 0;plain 0;plain 0");
    }

    /** Each barber of fullTown() shaves one strip of each one. */
    static void allKnowOneStrip(RazorTalk x) {
        for (int barber = 0; barber < 4; barber++) {
            for (int person = 0; person < 6; person++) x.shave(barber, person, (barber + person) % 6);
        }
    }

    private static void knowsRefused() {
        Edge.of(9, "UNKNOWN; OUTSIDE.");
        Edge.refused("knows(3, 0, 0)", UNKNOWN, y -> y.knows(3, 0, 0));
        Edge.refused("knows(0, 2, 0)", UNKNOWN, y -> y.knows(0, 2, 0));
        Edge.refused("knows(0, 0, 3)", OUTSIDE, y -> y.knows(0, 0, 3));
        for (int no : Edge.NOBODY) {
            Edge.refused("knows(" + no + ", 0, 0)", UNKNOWN, y -> y.knows(no, 0, 0));
            Edge.refused("knows(0, " + no + ", 0)", UNKNOWN, y -> y.knows(0, no, 0));
            Edge.refused("knows(0, 0, " + no + ")", OUTSIDE, y -> y.knows(0, 0, no));
            Edge.refused("knows(" + no + ", 0, 3)", UNKNOWN, y -> y.knows(no, 0, 3));
            Edge.refused("knows(0, " + no + ", 3)", UNKNOWN, y -> y.knows(0, no, 3));
        }
        Edge.refused(RazorTalk::new, "knows(0, 0, 0) of nobody", UNKNOWN, y -> y.knows(0, 0, 0));
        for (int what = 0; what < 3; what++) {
            int asked = what;
            Edge.unchanged("knows(0, 0, " + what + ")", y -> y.knows(0, 0, asked));
        }
    }

    private static void asDue(RazorTalk x, int person, int... due) {
        for (int kind = 0; kind <= 4; kind++) {
            Check.due("as(" + person + ", " + kind + ")", x.as(person, kind), due[kind]);
        }
    }

    private static void takenAs() {
        Edge.of(10, "PERSON (0); PLAIN (1) under it; BAILED (2) is PLAIN; RESERVED (3) is PLAIN; NICKED (4) is a PERSON.");
        RazorTalk x = Check.told("plain 4;bailed 4;reserved 4;nicked 4;beard 1 2 3;beard 2 2 9;beard 3 2 5");
        asDue(x, 0, 1, 1, NOT, NOT, NOT);
        asDue(x, 1, 1, 1, 1, NOT, NOT);
        asDue(x, 2, NONE, NONE, NOT, NONE, NOT);
        asDue(x, 3, 0, NOT, NOT, NOT, 0);

        Edge.of(10, "he answers as what he is, whatever he is taken as");
        x = Check.told("bailed 4;nicked 4;beard 0 2 2;beard 1 2 9");
        Check.due("as(0, 1) of a bailed one", x.as(0, 1), NONE);
        Check.due("as(0, 0) of a bailed one", x.as(0, 0), NONE);
        Check.due("as(1, 0) of a nicked one", x.as(1, 0), 0);
        Check.due("knows(0, 0, 0), nothing was told", x.knows(0, 0, 0), 0);
        Check.due("beard(1, 2), nothing was shaved", x.beard(1, 2), 9);
    }

    private static void takenByBeards() {
        Edge.of(10, "what he would TELL of STRIP 2 now (0, 1; NONE).");
        RazorTalk x = Check.told("plain 4;bailed 4;reserved 4;nicked 4;nicked 59");
        for (int beard = 0; beard <= 9; beard++) {
            Check.due("as(0, 1) by " + beard, x.as(0, 1), 1);
            Check.due("as(1, 2) by " + beard, x.as(1, 2), beard < 3 ? NONE : 1);
            Check.due("as(2, 3) by " + beard, x.as(2, 3), NONE);
            Check.due("as(3, 4) by " + beard, x.as(3, 4), beard < 5 ? 1 : 0);
            Check.due("as(4, 4) by " + beard, x.as(4, 4), beard < 5 ? 0 : 1);
            x.day();
        }
    }

    private static void takenRefused() {
        Edge.of(10, "UNKNOWN; OUTSIDE; NOT: he is none such.");
        Edge.refused("as(2, 0)", UNKNOWN, y -> y.as(2, 0));
        Edge.refused("as(0, 5)", OUTSIDE, y -> y.as(0, 5));
        for (int no : Edge.NOBODY) {
            Edge.refused("as(" + no + ", 0)", UNKNOWN, y -> y.as(no, 0));
            Edge.refused("as(0, " + no + ")", OUTSIDE, y -> y.as(0, no));
            Edge.refused("as(" + no + ", 5)", UNKNOWN, y -> y.as(no, 5));
        }
        Edge.refused(RazorTalk::new, "as(0, 0) of nobody", UNKNOWN, y -> y.as(0, 0));
        Edge.refused("as(0, 1) of a nicked one", NOT, y -> y.as(0, 1));
        Edge.refused("as(1, 4) of a bailed one", NOT, y -> y.as(1, 4));
        Edge.refused("as(1, 3) of a bailed one", NOT, y -> y.as(1, 3));
        Edge.refused("as(2, 4) of nobody", UNKNOWN, y -> y.as(2, 4));
        Edge.unchanged("as(0, 4)", y -> y.as(0, 4));
    }
}
