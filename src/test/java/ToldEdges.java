/** Boundary cases of promises 1 to 5: a new object, THE TEXT, what it tells. */
final class ToldEdges {
    private static final int NONE = RazorTalk.NONE, UNKNOWN = RazorTalk.UNKNOWN, OUTSIDE = RazorTalk.OUTSIDE,
            NOT = RazorTalk.NOT, FULL = RazorTalk.FULL;
    private static final String[] KINDS = {"plain", "bailed", "reserved", "nicked"};
    private static final String SIX_PEOPLE = "plain 1;bailed 1;reserved 1;nicked 1;plain 1;plain 1";
    private static final String EIGHT_RUMOURS = "rumour 1" + ";rumour 1".repeat(7);
    private static final String FOURTEEN_CLAUSES = "town 1" + ";town 1".repeat(13);

    private ToldEdges() {
    }

    static void run() {
        aNewObject();
        letters();
        emptying();
        theEnds();
        numberOfClauses();
        aSeventhPerson();
        aNinthRumour();
        bounds();
        digits();
        beardOfOneToldAhead();
        signs();
        blanks();
        firstToken();
        townRefused();
        townOfFewestAndMost();
        inTheirOrder();
        toldAnew();
        whatATextEnds();
    }

    private static void fault(String text, int want) {
        RazorTalk x = new RazorTalk();
        fault(x, text, want);
    }

    private static void fault(RazorTalk x, String text, int want) {
        x.erase();
        Check.write(x, text);
        Check.due("fault() of '" + text + "'", x.fault(), want);
    }

    private static void aNewObject() {
        Edge.of(1, "Two barbers, nobody.");
        RazorTalk x = new RazorTalk();
        Check.due("count(0)", x.count(0), 2);
        Check.due("count(1)", x.count(1), 0);
        Check.due("person(0, 0)", x.person(0, 0), UNKNOWN);
        Check.tell(x, "plain 0");
        Check.due("knows(1, 0, 0)", x.knows(1, 0, 0), 0);
        Check.due("knows(2, 0, 0)", x.knows(2, 0, 0), UNKNOWN);

        Edge.of(1, "(none at first)");
        x = new RazorTalk();
        Check.due("rumour(0)", x.rumour(0), UNKNOWN);
        Check.due("was()", x.was(), 0);
        for (int what = 1; what <= 8; what++) Check.due("count(" + what + ")", x.count(what), 0);

        Edge.of(1, "`RazorTalk()`");
        x = Edge.busy();
        Check.due("count(0) of a new one beside a busy one", new RazorTalk().count(0), 2);
        for (int what = 1; what <= 8; what++) {
            Check.due("count(" + what + ") of a new one beside a busy one", new RazorTalk().count(what), 0);
        }
        Check.due("count(1) of the busy one", x.count(1), 2);

        Edge.of(1, "An object is used for at most 512 calls after it has been made");
        x = new RazorTalk();
        int day = 0;
        for (int call = 1; call <= 512; call++) day = x.day();
        Check.due("the 512th call", day, 512);
    }

    private static RazorTalk fullText() {
        RazorTalk x = new RazorTalk();
        Check.write(x, " ".repeat(153) + "plain 9");
        return x;
    }

    private static void letters() {
        Edge.of(2, "(its number, 0 .. 255)");
        RazorTalk x = new RazorTalk();
        Check.due("write(0)", x.write(0), 1);
        Check.due("write(255)", x.write(255), 2);
        for (int letter : new int[] {-1, 256, -256, 65536, Integer.MIN_VALUE, Integer.MAX_VALUE}) {
            Edge.refused("write(" + letter + ")", OUTSIDE, y -> y.write(letter));
        }

        Edge.of(2, "THE TEXT is a row of letters, 160 at most");
        x = new RazorTalk();
        for (int n = 1; n <= 160; n++) Check.due("write(97)", x.write('a'), n);
        Edge.refused(ToldEdges::fullText, "a 161st, write(59)", FULL, y -> y.write(';'));
        Edge.refused(ToldEdges::fullText, "a 161st, write(0)", FULL, y -> y.write(0));
        Edge.refused(ToldEdges::fullText, "a 161st, write(255)", FULL, y -> y.write(255));

        Edge.of(2, "OUTSIDE; FULL.");
        Edge.refused(ToldEdges::fullText, "write(-1) to a full one", OUTSIDE, y -> y.write(-1));
        Edge.refused(ToldEdges::fullText, "write(256) to a full one", OUTSIDE, y -> y.write(256));
        x = fullText();
        x.erase();
        Check.due("write(97) to one that was full", x.write('a'), 1);
        x = fullText();
        x.town();
        Check.due("write(97) to one that was done", x.write('a'), 1);
    }

    private static void emptying() {
        Edge.of(3, "THE TEXT is empty: how many letters it had.");
        RazorTalk x = new RazorTalk();
        Check.due("erase() of a new one", x.erase(), 0);
        x.write('p');
        Check.due("erase() of one letter", x.erase(), 1);
        Check.due("erase() of none", x.erase(), 0);
        Check.due("erase() of a full one", fullText().erase(), 160);
        Check.write(x, "plain 1");
        x.town();
        Check.due("erase() of one that was done", x.erase(), 0);
        Check.due("count(1), what was told stays", x.count(1), 1);
        x = Edge.busy();
        x.erase();
        Check.due("fault() behind erase()", x.fault(), 0);
        Check.write(x, "plain 5");
        Check.holds("nothing else changes by it", Check.picture(x).equals(Check.picture(Edge.busy())));
        Check.due("undo() behind it", x.undo(), 3);
        Check.due("back(0) behind it", x.back(0), 0);
        Check.due("back(1) behind it", x.back(1), 1);

        Edge.of(3, "THE TEXT is empty");
        x = new RazorTalk();
        fault(x, "plain 31", NONE);
        fault(x, "plain", 5);
        fault(x, "plain ", 6);
        fault(x, "plain   ;", 8);
        fault(x, "plain", 5);
        fault(x, "town", 4);
    }

    private static void theEnds() {
        Edge.of(4, "an empty TEXT ends too soon");
        fault("", 0);
        fault(" ", 1);
        fault(" ".repeat(160), 160);

        Edge.of(4, "or at the end, if it comes too soon");
        for (String word : new String[] {"town", "plain", "bailed", "reserved", "nicked", "rumour", "beard"}) {
            fault(word, word.length());
            fault(word + " ", word.length() + 1);
            fault("town 1;" + word, 7 + word.length());
        }
        fault("plain 1;", 8);
        fault("plain 1 ; ", 10);
        fault("plain 1;beard 0", 15);
        fault("plain 1;beard 0 0", 17);
        fault("plain 1;beard 0 0 0;", 20);
        fault(" ".repeat(155) + "plain", 160);

        Edge.of(4, "(the letter with which the TOKEN begins, or the length); NONE.");
        fault("plain 1", NONE);
        fault("plain 1;plainer 1", 8);
        fault("plain 1; 123", 9);
        Check.due("fault() of 160 letters", fullText().fault(), NONE);
        Edge.unchanged("fault()", RazorTalk::fault);
    }

    private static void numberOfClauses() {
        Edge.of(4, "CLAUSES with ; between, 1 to 14");
        fault("town 1", NONE);
        fault("town 1" + ";town 1".repeat(12), NONE);
        fault(FOURTEEN_CLAUSES, NONE);
        fault(";town 1", 0);
        fault("town 1;;town 1", 7);
        fault("town 1 town 1", 7);
        fault("town 1,town 1", 6);

        Edge.of(4, "behind the 14th no ; can stand");
        fault(FOURTEEN_CLAUSES + ";", 97);
        fault(FOURTEEN_CLAUSES + ";town 1", 97);
        fault(FOURTEEN_CLAUSES + "  ;", 99);
        fault("town 1" + ";town 1".repeat(12) + ";", 91);
    }

    private static void aSeventhPerson() {
        Edge.of(4, "a seventh cannot stand there (at its word)");
        fault(SIX_PEOPLE, NONE);
        for (String kind : KINDS) {
            fault(SIX_PEOPLE + "; " + kind + " 1", SIX_PEOPLE.length() + 2);
            fault(SIX_PEOPLE + ";" + kind, SIX_PEOPLE.length() + 1);
            fault(SIX_PEOPLE + ";" + kind + " 64", SIX_PEOPLE.length() + 1);
        }
        fault(SIX_PEOPLE + ";rumour 1;plain 1", SIX_PEOPLE.length() + 10);
        fault(SIX_PEOPLE + ";town 1;plain 1", NONE);
        fault("plain 1;town 1;" + SIX_PEOPLE, NONE);
        fault("plain 1;town 1;" + SIX_PEOPLE + ";plain 1", 16 + SIX_PEOPLE.length());

        Edge.of(4, "6 at most (none at first)");
        RazorTalk x = Check.told(SIX_PEOPLE);
        for (String kind : KINDS) fault(x, kind + " 1", 0);
        fault(x, "town 2;plain 1", NONE);
        x = Check.told("plain 1;plain 1;plain 1;plain 1;plain 1");
        fault(x, "plain 1", NONE);
        fault(x, "plain 1;plain 1", 8);
    }

    private static void aNinthRumour() {
        Edge.of(4, "rumour: R is one more, a ninth cannot");
        fault(EIGHT_RUMOURS, NONE);
        fault(EIGHT_RUMOURS + ";rumour 1", EIGHT_RUMOURS.length() + 1);
        fault(EIGHT_RUMOURS + ";rumour 64", EIGHT_RUMOURS.length() + 1);
        fault(EIGHT_RUMOURS + ";plain 1", NONE);
        fault(EIGHT_RUMOURS + ";town 1;rumour 1", NONE);
        fault("rumour 1;town 1;" + EIGHT_RUMOURS, NONE);

        Edge.of(4, "RUMOURS are 0, 1 .., 8 at most");
        RazorTalk x = Check.told(EIGHT_RUMOURS);
        fault(x, "rumour 1", 0);
        fault(x, "town 2;rumour 1", NONE);
        x = Check.told("rumour 1" + ";rumour 1".repeat(6));
        fault(x, "rumour 1", NONE);
        fault(x, "rumour 1;rumour 1", 9);
    }

    private static void bounds() {
        Edge.of(4, "(b 1 .. 4; 2 at first)");
        fault("town 0", 5);
        fault("town 1", NONE);
        fault("town 4", NONE);
        fault("town 5", 5);
        fault("town 14", 5);

        Edge.of(4, "with a SECRET (0 .. 63: six PARTS, bit k for STRIP k)");
        for (String kind : KINDS) {
            fault(kind + " 0", NONE);
            fault(kind + " 63", NONE);
            fault(kind + " 64", kind.length() + 1);
            fault(kind + " 99", kind.length() + 1);
        }

        Edge.of(4, "each a number (0 .. 63) that a SECRET can be");
        fault("rumour 0", NONE);
        fault("rumour 63", NONE);
        fault("rumour 64", 7);

        Edge.of(4, "beard: on STRIP K (0 .. 5) of P");
        fault("plain 1;beard 0 0 1", NONE);
        fault("plain 1;beard 0 5 1", NONE);
        fault("plain 1;beard 0 6 1", 16);

        Edge.of(4, "there is a BEARD of D (0 .. 9)");
        fault("plain 1;beard 0 0 0", NONE);
        fault("plain 1;beard 0 0 9", NONE);
        fault("plain 1;beard 0 0 10", 18);

        Edge.of(4, "(a number out of its bounds, of more digits, also)");
        fault("plain -1", 6);
        fault("plain +1", 6);
        fault("plain 064", 6);
    }

    private static void digits() {
        Edge.of(4, "numbers of 1 or 2 digits");
        fault("plain 7", NONE);
        fault("plain 07", NONE);
        fault("plain 007", 6);
        fault("town 02", NONE);
        fault("town 002", 5);
        fault("plain 1;beard 00 00 00", NONE);
        fault("plain 1;beard 000 0 0", 14);
        fault("plain 1;beard 0 000 0", 16);
        fault("plain 1;beard 0 0 000", 18);
        // As an int or a long these rows would wrap around to 1.
        fault("plain 4294967297", 6);
        fault("plain 18446744073709551617", 6);
        fault("plain " + "0".repeat(153) + "1", 6);
    }

    private static void beardOfOneToldAhead() {
        Edge.of(4, "of P (told ahead)");
        fault("beard 0 0 0", 6);
        fault("beard 0 0 0;plain 1", 6);
        fault("plain 1;beard 0 0 0", NONE);
        fault("plain 1;beard 1 0 0", 14);
        fault("plain 1;beard 1 0 0;plain 1", 14);
        fault(SIX_PEOPLE + ";beard 5 0 0", NONE);
        fault(SIX_PEOPLE + ";beard 6 0 0", SIX_PEOPLE.length() + 7);
        fault("plain 1;town 1;beard 0 0 0", 21);
        fault("plain 1;town 1;plain 1;beard 0 0 0", NONE);

        Edge.of(4, "what earlier texts told stays");
        RazorTalk x = Check.told("plain 1;plain 1");
        fault(x, "beard 1 0 0", NONE);
        fault(x, "beard 2 0 0", 6);
        fault(x, "plain 1;beard 2 0 0", NONE);
        fault(x, "town 1;beard 1 0 0", 13);
    }

    private static void signs() {
        Edge.of(4, "small letters a .. z");
        fault("Plain 1", 0);
        fault("plaiN 1", 0);
        fault("PLAIN 1", 0);
        fault("`lain 1", 0);
        fault("plain` 1", 5);
        fault("plain{ 1", 5);
        fault("plain\u00e9 1", 5);
        fault("zeard 0 0 0", 0);
        fault("plaina 1", 0);
        fault("plainz 1", 0);
        fault("town 1;townz 1", 7);

        Edge.of(4, "a row of digits, any other letter");
        fault("plain /", 6);
        fault("plain :", 6);
        fault("plain 1/", 7);
        fault("plain 1:", 7);
        fault("plain 1!!", 7);
        fault("plain 1.", 7);
        fault("plain \u0000", 6);
        fault("plain \u00ff", 6);
    }

    private static void blanks() {
        Edge.of(4, "blanks (32) may stand ahead of, between and behind TOKENS");
        fault("   plain   1   ;   beard   0   5   9   ", NONE);
        fault("\tplain 1", 0);
        fault("plain\n1", 5);
        fault("plain\u001f1", 5);
        fault("plain!1", 5);
        fault("plain\u00a01", 5);
        fault("pl ain 1", 0);
        fault("plain 6 3", 8);

        Edge.of(4, "none is needed but between two words, two numbers");
        fault("plain1;bailed2;reserved3;nicked4;rumour5;beard0 5 9", NONE);
        fault("plain1;beard0 59", 14);
        fault("plain1;beard05 9", 12);
        fault("plain1;beard0 5", 15);
        fault("plainrumour 1", 0);
        fault("plain 1rumour 1", 7);
    }

    private static void firstToken() {
        Edge.of(4, "A FAULT is at the first TOKEN");
        fault("wig 3", 0);
        fault("7 plain", 0);
        fault("plain plain", 6);
        fault("plain ;", 6);
        fault("plain 64;wig", 6);
        fault("town 9;plain 64", 5);
        fault("town 2;wig;plain 64", 7);

        Edge.of(4, "(a row of small letters,");
        fault("town 2;plai 1", 7);
        fault("town 2;plainx 1", 7);
        fault("town 2;xplain 1", 7);
        fault("towns 2", 0);
        fault("tow 2", 0);
        fault("rumor 2", 0);
        fault("bailee 2", 0);
    }

    private static void townRefused() {
        Edge.of(5, "NOT: it has a FAULT.");
        for (String text : new String[] {"", "wig 3", "town 2;plain 64", "town 1;plain 3;", "town 4;plain 1;rumour"}) {
            Edge.refused(() -> {
                RazorTalk x = Edge.busy();
                x.erase();
                Check.write(x, text);
                return x;
            }, "town() of '" + text + "'", NOT, RazorTalk::town);
        }
        Edge.refused(RazorTalk::new, "town() of a new one", NOT, RazorTalk::town);
    }

    private static void townOfFewestAndMost() {
        Edge.of(5, "THE TEXT's CLAUSES are done, and it is empty then: how many there were.");
        RazorTalk x = new RazorTalk();
        Check.write(x, "town 4");
        Check.due("town() of one", x.town(), 1);
        Check.due("count(8)", x.count(8), 0);
        Check.due("fault()", x.fault(), 0);
        Check.due("town() again", x.town(), NOT);
        Check.write(x, "plain 63;plain 0;bailed 63;bailed 0;nicked 63;nicked 0" + ";rumour 63;rumour 0".repeat(4));
        Check.due("town() of 14", x.town(), 14);
        Check.due("count(0)", x.count(0), 4);
        Check.due("count(1)", x.count(1), 6);
        Check.due("count(2)", x.count(2), 8);
        for (int n = 0; n < 6; n++) Check.due("person(" + n + ", 1)", x.person(n, 1), n % 2 == 0 ? 63 : 0);
        for (int n = 0; n < 8; n++) Check.due("rumour(" + n + ")", x.rumour(n), n % 2 == 0 ? 63 : 0);
    }

    private static void inTheirOrder() {
        Edge.of(5, "CLAUSES are done in their order.");
        RazorTalk x = Check.told("plain 1;beard 0 3 4;beard 0 3 7;rumour 5;rumour 6;nicked 2");
        Check.due("beard(0, 3)", x.beard(0, 3), 7);
        Check.due("rumour(0)", x.rumour(0), 5);
        Check.due("person(1, 0)", x.person(1, 0), 3);
        x = Check.told("town 1;town 4;town 3");
        Check.due("count(0)", x.count(0), 3);
        x = Check.told("plain 1;beard 0 0 9;rumour 1;town 1;bailed 2");
        Check.due("person(0, 0)", x.person(0, 0), 1);
        Check.due("beard(0, 0)", x.beard(0, 0), 0);
        Check.due("count(2)", x.count(2), 0);
    }

    private static void toldAnew() {
        Edge.of(5, "town: B BARBERS, nobody, no RUMOURS");
        RazorTalk x = Edge.busy();
        x.erase();
        Check.tell(x, "town 1");
        int[] due = {1, 0, 0, 0, 0, 0, 0, 0, 0};
        for (int what = 0; what < due.length; what++) Check.due("count(" + what + ")", x.count(what), due[what]);
        Check.due("person(0, 0)", x.person(0, 0), UNKNOWN);
        Check.due("rumour(0)", x.rumour(0), UNKNOWN);

        Edge.of(5, "one of PEOPLE more, of SECRET S, without a BEARD");
        x = Check.told("nicked 63;beard 0 0 9;beard 0 5 9");
        Check.tell(x, "town 2;plain 0");
        Check.due("person(0, 2)", x.person(0, 2), 63);
        x.day();
        Check.tell(x, "bailed 1");
        Check.due("person(0, 2), told earlier", x.person(0, 2), 63);
        Check.due("person(1, 2)", x.person(1, 2), 63);

        Edge.of(5, "what earlier texts told stays");
        x = Check.told("town 4;nicked 63;beard 0 0 9;rumour 7");
        Check.tell(x, "rumour 0");
        Check.due("count(0)", x.count(0), 4);
        Check.due("person(0, 0)", x.person(0, 0), 3);
        Check.due("person(0, 1)", x.person(0, 1), 63);
        Check.due("beard(0, 0)", x.beard(0, 0), 9);
        Check.due("rumour(0)", x.rumour(0), 7);
        Check.due("rumour(1)", x.rumour(1), 0);
    }

    private static RazorTalk toldOnceMore() {
        RazorTalk x = Edge.busy();
        Check.due("town() of the text written ahead", x.town(), 1);
        return x;
    }

    private static void whatATextEnds() {
        Edge.of(5, "Behind them it is DAY 0");
        Check.due("count(3)", toldOnceMore().count(3), 0);

        Edge.of(5, "BEARDS are as told (whatever grew, was shaved)");
        RazorTalk x = toldOnceMore();
        Check.due("beard(0, 0), it grew", x.beard(0, 0), 7);
        Check.due("beard(1, 1), it was shaved", x.beard(1, 1), 3);
        Check.due("count(4)", x.count(4), 10);
        x = Check.told("plain 1;beard 0 0 9;beard 0 1 0");
        x.shave(0, 0, 0);
        x.day();
        Check.tell(x, "beard 0 0 0");
        Check.due("beard(0, 0), told again", x.beard(0, 0), 0);
        Check.due("beard(0, 1), told as 0", x.beard(0, 1), 0);

        Edge.of(5, "no BARBER knows anything");
        x = toldOnceMore();
        for (int barber = 0; barber < 3; barber++) {
            for (int person = 0; person < 3; person++) {
                Check.due("knows(" + barber + ", " + person + ", 0)", x.knows(barber, person, 0), 0);
                Check.due("knows(" + barber + ", " + person + ", 1)", x.knows(barber, person, 1), 0);
                Check.due("knows(" + barber + ", " + person + ", 2)", x.knows(barber, person, 2), 7);
            }
        }

        Edge.of(5, "nothing is SEEN");
        Check.due("forget()", toldOnceMore().forget(), 0);
        Check.due("was()", toldOnceMore().was(), 7);

        Edge.of(5, "nothing is kept or can be undone");
        Check.due("back(0)", toldOnceMore().back(0), NOT);
        Check.due("back(1)", toldOnceMore().back(1), NOT);
        Check.due("undo()", toldOnceMore().undo(), NOT);
        Check.due("count(7)", toldOnceMore().count(7), 0);
    }
}
