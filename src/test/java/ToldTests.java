/** Promises 1 to 10: what is told. */
final class ToldTests {
    private static final int NONE = RazorTalk.NONE, UNKNOWN = RazorTalk.UNKNOWN, OUTSIDE = RazorTalk.OUTSIDE,
            NOT = RazorTalk.NOT, FULL = RazorTalk.FULL;

    private ToldTests() {
    }

    static void run() {
        aNewObject();
        write();
        erase();
        faultInTokens();
        faultInNumbers();
        faultAtTheEnd();
        faultByWhatWasTold();
        faultByClauses();
        town();
        townAgain();
        person();
        beard();
        rumour();
        knows();
        as();
    }

    private static void aNewObject() {
        Check.begin("promise 1");
        RazorTalk x = new RazorTalk();
        Check.due("count(0)", x.count(0), 2);
        for (int what = 1; what <= 8; what++) Check.due("count(" + what + ")", x.count(what), 0);
        Check.due("person(0, 0)", x.person(0, 0), UNKNOWN);
        Check.due("rumour(0)", x.rumour(0), UNKNOWN);
        Check.due("was()", x.was(), 0);
        Check.due("undo()", x.undo(), NOT);
        Check.due("back(0)", x.back(0), NOT);
        Check.due("day()", x.day(), 1);
        Check.tell(x, "plain 5");
        Check.due("count(0) where no town was told", x.count(0), 2);
        Check.due("shave(1, 0, 0)", x.shave(1, 0, 0), 1);
        Check.due("shave(2, 0, 0)", x.shave(2, 0, 0), UNKNOWN);
    }

    private static void write() {
        Check.begin("promise 2");
        RazorTalk x = new RazorTalk();
        Check.due("write(-1)", x.write(-1), OUTSIDE);
        Check.due("write(256)", x.write(256), OUTSIDE);
        Check.due("write(least int)", x.write(Integer.MIN_VALUE), OUTSIDE);
        Check.due("count(8)", x.count(8), 0);
        Check.due("write(0)", x.write(0), 1);
        Check.due("write(255)", x.write(255), 2);
        for (int n = 3; n <= 160; n++) Check.due("write(32)", x.write(32), n);
        Check.due("write(32) at 160", x.write(32), FULL);
        Check.due("write(256) at 160", x.write(256), OUTSIDE);
        Check.due("count(8) at 160", x.count(8), 160);
        x.erase();
        Check.write(x, " ".repeat(153) + "plain 7");
        Check.due("fault() of 160 letters", x.fault(), NONE);
    }

    private static void erase() {
        Check.begin("promise 3");
        RazorTalk x = new RazorTalk();
        Check.due("erase() of nothing", x.erase(), 0);
        Check.write(x, "plain 31");
        Check.due("erase()", x.erase(), 8);
        Check.due("erase() again", x.erase(), 0);
        Check.due("fault() behind erase()", x.fault(), 0);
        Check.due("write(112) behind erase()", x.write('p'), 1);
        Check.due("fault() of p", x.fault(), 0);
        Check.write(x, "lain");
        Check.due("fault() where a blank and a number stood once", x.fault(), 5);
        x.write(' ');
        Check.due("fault() where a number stood once", x.fault(), 6);
        Check.due("town()", x.town(), NOT);
        Check.due("count(1)", x.count(1), 0);
    }

    private static void fault(String text, int want) {
        RazorTalk x = new RazorTalk();
        Check.write(x, text);
        Check.due("fault() of '" + text + "'", x.fault(), want);
        Check.due("fault() again of '" + text + "'", x.fault(), want);
        Check.due("count(8)", x.count(8), text.length());
        if (want != NONE) Check.due("town() of '" + text + "'", x.town(), NOT);
    }

    private static void faultInTokens() {
        Check.begin("promise 4, tokens");
        fault("plain 7", NONE);
        fault("plain7", NONE);
        fault("  plain   7  ", NONE);
        fault("plain7;bailed8;beard1 2 3", NONE);
        fault("plain 7 ; bailed 8 ; beard 1 2 3 ", NONE);
        fault("plain 7bailed 8", 7);
        fault("plain7 rumour 8", 7);
        fault("plain 1 2", 8);
        fault("plainplain 1", 0);
        fault("plains 1", 0);
        fault("plainz 1", 0);
        fault("plaina 1", 0);
        fault("plai 1", 0);
        fault("plai n 1", 0);
        fault("Plain 1", 0);
        fault("plaIn 1", 0);
        fault("plain\t1", 5);
        fault("plain 1\n", 7);
        fault("plain -1", 6);
        fault("plain 1.", 7);
        fault(" 7", 1);
        fault(";plain 7", 0);
        fault("plain 7;;plain 7", 8);
        fault("plain 7,plain 7", 7);
        fault("plain;plain 7", 5);
        fault("plain plain 7", 6);
        fault("plain \u00e47", 6);
        fault("beard 0 0 0", 6);
        fault("plain 1;beard 000", 14);
        fault("plain 1;beard 0 00", 18);
        fault("plain 1;beard 00 0 0", NONE);
        fault("wig 3", 0);
        fault("plain 1;wig 3", 8);
        fault("plain 1;zeard 0 0 0", 8);
        fault("plain 1;az{ 3", 8);
        fault("plain 1;beard`0 0 0", 13);
        fault("plain 1;beard{0 0 0", 13);
        fault("plain 1/", 7);
        fault("plain 1:", 7);
    }

    private static void faultInNumbers() {
        Check.begin("promise 4, numbers");
        fault("town 1", NONE);
        fault("town 4", NONE);
        fault("town 0", 5);
        fault("town 5", 5);
        fault("town 04", NONE);
        fault("town 004", 5);
        for (String word : new String[] {"plain", "bailed", "reserved", "nicked", "rumour"}) {
            fault(word + " 0", NONE);
            fault(word + " 63", NONE);
            fault(word + " 64", word.length() + 1);
            fault(word + " 063", word.length() + 1);
            fault(word + " 7000000000", word.length() + 1);
        }
        fault("plain 1;beard 0 5 9", NONE);
        fault("plain 1;beard 0 6 9", 16);
        fault("plain 1;beard 0 5 10", 18);
        fault("plain 1;beard 0 05 09", NONE);
        fault("plain 1;beard 1 0 0", 14);
        fault("plain 1;beard 0 0 0 0", 20);
    }

    private static void faultAtTheEnd() {
        Check.begin("promise 4, the end");
        fault("", 0);
        fault("   ", 3);
        fault("plain", 5);
        fault("plain  ", 7);
        fault("town 2;", 7);
        fault("town 2; ", 8);
        fault("plain 1;beard", 13);
        fault("plain 1;beard 0", 15);
        fault("plain 1;beard 0 5", 17);
        fault("plain 1;beard 0 5 ", 18);
    }

    private static void faultByWhatWasTold() {
        Check.begin("promise 4, what was told");
        fault("plain 1;bailed 1;reserved 1;nicked 1;plain 1;plain 1", NONE);
        fault("plain 1;bailed 1;reserved 1;nicked 1;plain 1;plain 1;nicked 1", 53);
        fault("plain 1;bailed 1;reserved 1;nicked 1;plain 1;plain 1;rumour 1", NONE);
        fault("plain 1;bailed 1;reserved 1;nicked 1;plain 1;plain 1;town 1;plain 1", NONE);
        fault("rumour 1;rumour 1;rumour 1;rumour 1;rumour 1;rumour 1;rumour 1;rumour 1", NONE);
        fault("rumour 1;rumour 1;rumour 1;rumour 1;rumour 1;rumour 1;rumour 1;rumour 1;rumour 64", 72);
        fault("rumour 1;rumour 1;rumour 1;rumour 1;rumour 1;rumour 1;rumour 1;rumour 1;town 1;rumour 1", NONE);
        fault("rumour 1;town 1" + ";rumour 1".repeat(8), NONE);
        fault("rumour 1;town 1" + ";rumour 1".repeat(9), 88);
        fault("plain 1;town 1" + ";plain 1".repeat(7), 63);
        fault("plain 1;town 3;beard 0 0 0", 21);
        fault("beard 0 0 0;plain 1", 6);
        RazorTalk x = Check.told("plain 1;plain 1;plain 1;plain 1;plain 1");
        Check.write(x, "beard 4 0 0;plain 1;beard 5 0 0");
        Check.due("fault() with five told ahead", x.fault(), NONE);
        Check.write(x, ";plain 1");
        Check.due("fault() with a seventh", x.fault(), 32);
        Check.due("town() with a seventh", x.town(), NOT);
        Check.due("count(1)", x.count(1), 5);
        x = Check.told("rumour 1;rumour 1;rumour 1;rumour 1;rumour 1;rumour 1;rumour 1");
        Check.write(x, "rumour 1");
        Check.due("fault() with seven told ahead", x.fault(), NONE);
        Check.write(x, ";rumour 1");
        Check.due("fault() with a ninth", x.fault(), 9);
    }

    private static void faultByClauses() {
        Check.begin("promise 4, clauses");
        String fourteen = "town 1;".repeat(13) + "town 1";
        fault(fourteen, NONE);
        fault(fourteen + " ", NONE);
        fault(fourteen + ";", 97);
        fault(fourteen + " ;town 1", 98);
        fault(fourteen + " town 1", 98);
        fault("town 1;".repeat(13), 91);
    }

    private static void town() {
        Check.begin("promise 5");
        RazorTalk x = new RazorTalk();
        Check.due("town() of nothing", x.town(), NOT);
        Check.write(x, "town 3;plain 21;rumour 64");
        Check.due("town() of a fault", x.town(), NOT);
        Check.due("count(8) behind NOT", x.count(8), 25);
        Check.due("count(0) behind NOT", x.count(0), 2);
        Check.due("count(1) behind NOT", x.count(1), 0);
        x.erase();
        Check.write(x, "town 3; plain 21;nicked 63;rumour 9;beard 1 5 9;beard 1 5 8");
        Check.due("town()", x.town(), 6);
        Check.due("count(8)", x.count(8), 0);
        Check.due("count(0)", x.count(0), 3);
        Check.due("count(1)", x.count(1), 2);
        Check.due("count(2)", x.count(2), 1);
        Check.due("beard(1, 5), as told last", x.beard(1, 5), 8);
        Check.due("beard(0, 5)", x.beard(0, 5), 0);
        Check.due("town() again", x.town(), NOT);
    }

    /** What a text ends: the DAY, what grew and was SHAVED, what is known, SEEN, kept, can be undone. */
    private static void townAgain() {
        Check.begin("promise 5, a second text");
        RazorTalk x = Check.told("town 3;plain 21;rumour 9;beard 0 1 4;beard 0 2 6");
        x.day();
        x.day();
        x.shave(2, 0, 1);
        x.shave(1, 0, 3);
        x.seen(0, 0, 0);
        x.keep(0);
        x.keep(1);
        Check.tell(x, "bailed 3;rumour 8;beard 0 2 7;beard 1 0 1");
        Check.due("count(0)", x.count(0), 3);
        Check.due("count(1)", x.count(1), 2);
        Check.due("count(2)", x.count(2), 2);
        Check.due("count(3)", x.count(3), 0);
        Check.due("count(4)", x.count(4), 12);
        Check.due("count(5)", x.count(5), 0);
        Check.due("count(6)", x.count(6), 0);
        Check.due("count(7)", x.count(7), 0);
        Check.due("beard(0, 0), which grew", x.beard(0, 0), 0);
        Check.due("beard(0, 1), which was shaved", x.beard(0, 1), 4);
        Check.due("beard(0, 2), told again", x.beard(0, 2), 7);
        Check.due("undo()", x.undo(), NOT);
        Check.due("back(0)", x.back(0), NOT);
        Check.due("back(1)", x.back(1), NOT);
        Check.due("was()", x.was(), 3);
        Check.tell(x, "rumour 7;town 1;plain 2");
        Check.due("count(0) of a new town", x.count(0), 1);
        Check.due("count(1) of a new town", x.count(1), 1);
        Check.due("count(2) of a new town", x.count(2), 0);
        Check.due("count(4), a new one has no beard", x.count(4), 0);
        Check.due("person(0, 1)", x.person(0, 1), 2);
    }

    private static void person() {
        Check.begin("promise 6");
        RazorTalk x = Check.told("plain 0;bailed 42;reserved 63;nicked 12;beard 3 0 6;beard 3 4 9;beard 1 5 1");
        for (int person = 0; person < 4; person++) Check.due("person(.., 0)", x.person(person, 0), person);
        Check.due("person(0, 1)", x.person(0, 1), 0);
        Check.due("person(1, 1)", x.person(1, 1), 42);
        Check.due("person(2, 1)", x.person(2, 1), 63);
        Check.due("person(3, 1)", x.person(3, 1), 12);
        Check.due("person(0, 2)", x.person(0, 2), 63);
        Check.due("person(1, 2)", x.person(1, 2), 31);
        Check.due("person(3, 2)", x.person(3, 2), 46);
        Check.due("person(0, 3)", x.person(0, 3), 0);
        Check.due("person(3, 3)", x.person(3, 3), 15);
        x.day();
        Check.due("person(3, 2) a day behind", x.person(3, 2), 0);
        Check.due("person(3, 3) a day behind", x.person(3, 3), 20);
        x.shave(0, 3, 0);
        Check.due("person(3, 2), shaved", x.person(3, 2), 1);
        Check.due("person(3, 3), shaved", x.person(3, 3), 13);
        Check.due("person(4, 0)", x.person(4, 0), UNKNOWN);
        Check.due("person(-1, 0)", x.person(-1, 0), UNKNOWN);
        Check.due("person(0, 4)", x.person(0, 4), OUTSIDE);
        Check.due("person(0, -1)", x.person(0, -1), OUTSIDE);
        Check.due("person(4, 4)", x.person(4, 4), UNKNOWN);
    }

    private static void beard() {
        Check.begin("promise 7");
        RazorTalk x = Check.told("plain 0;plain 0;beard 1 5 9;beard 0 5 2;beard 1 0 3");
        Check.due("beard(1, 5)", x.beard(1, 5), 9);
        Check.due("beard(0, 5)", x.beard(0, 5), 2);
        Check.due("beard(1, 0)", x.beard(1, 0), 3);
        Check.due("beard(0, 0)", x.beard(0, 0), 0);
        Check.due("beard(2, 0)", x.beard(2, 0), UNKNOWN);
        Check.due("beard(-1, 0)", x.beard(-1, 0), UNKNOWN);
        Check.due("beard(0, 6)", x.beard(0, 6), UNKNOWN);
        Check.due("beard(1, -1)", x.beard(1, -1), UNKNOWN);
    }

    private static void rumour() {
        Check.begin("promise 8");
        RazorTalk x = Check.told("rumour 63;rumour 0;rumour 7;rumour 7");
        Check.due("rumour(0)", x.rumour(0), 63);
        Check.due("rumour(1)", x.rumour(1), 0);
        Check.due("rumour(2)", x.rumour(2), 7);
        Check.due("rumour(3)", x.rumour(3), 7);
        Check.due("rumour(4)", x.rumour(4), UNKNOWN);
        Check.due("rumour(-1)", x.rumour(-1), UNKNOWN);
        Check.tell(x, "rumour 31");
        Check.due("rumour(4), told later", x.rumour(4), 31);
    }

    private static void knows() {
        Check.begin("promise 9");
        RazorTalk x = Check.told("plain 53;nicked 9;rumour 53;rumour 20;rumour 37;rumour 1;rumour 53");
        Check.due("knows(0, 0, 0)", x.knows(0, 0, 0), 0);
        Check.due("knows(0, 0, 1)", x.knows(0, 0, 1), 0);
        Check.due("knows(0, 0, 2)", x.knows(0, 0, 2), 31);
        x.shave(0, 0, 0);
        Check.due("knows(0, 0, 2) by strip 0", x.knows(0, 0, 2), 29);
        x.shave(0, 0, 1);
        x.shave(0, 0, 4);
        Check.due("knows(0, 0, 0)", x.knows(0, 0, 0), 19);
        Check.due("knows(0, 0, 1)", x.knows(0, 0, 1), 17);
        Check.due("knows(0, 0, 2)", x.knows(0, 0, 2), 17);
        Check.due("knows(1, 0, 0), another barber", x.knows(1, 0, 0), 0);
        Check.due("knows(0, 1, 0), another person", x.knows(0, 1, 0), 0);
        Check.due("knows(2, 0, 0)", x.knows(2, 0, 0), UNKNOWN);
        Check.due("knows(-1, 0, 0)", x.knows(-1, 0, 0), UNKNOWN);
        Check.due("knows(0, 2, 0)", x.knows(0, 2, 0), UNKNOWN);
        Check.due("knows(0, -1, 3)", x.knows(0, -1, 3), UNKNOWN);
        Check.due("knows(0, 0, 3)", x.knows(0, 0, 3), OUTSIDE);
        Check.due("knows(0, 0, -1)", x.knows(0, 0, -1), OUTSIDE);
    }

    private static void as() {
        Check.begin("promise 10");
        RazorTalk x = Check.told("plain 4;bailed 4;reserved 4;nicked 4;plain 59;beard 1 2 2;beard 3 2 4");
        int[][] due = {
            {1, 1, NOT, NOT, NOT, OUTSIDE},
            {NONE, NONE, NONE, NOT, NOT, OUTSIDE},
            {NONE, NONE, NOT, NONE, NOT, OUTSIDE},
            {1, NOT, NOT, NOT, 1, OUTSIDE},
            {0, 0, NOT, NOT, NOT, OUTSIDE},
        };
        for (int person = 0; person < due.length; person++) {
            for (int kind = 0; kind <= 5; kind++) {
                Check.due("as(" + person + ", " + kind + ")", x.as(person, kind), due[person][kind]);
            }
        }
        x.day();
        Check.due("as(1, 2) with a beard of 3", x.as(1, 2), 1);
        Check.due("as(1, 1) with a beard of 3", x.as(1, 1), 1);
        Check.due("as(2, 1) with a beard", x.as(2, 1), NONE);
        Check.due("as(3, 4) with a beard of 5", x.as(3, 4), 0);
        Check.due("beard(1, 2), nothing was shaved", x.beard(1, 2), 3);
        Check.due("count(5), nothing was told", x.count(5), 0);
        Check.due("as(5, 0)", x.as(5, 0), UNKNOWN);
        Check.due("as(-1, 5)", x.as(-1, 5), UNKNOWN);
        Check.due("as(0, -1)", x.as(0, -1), OUTSIDE);
    }
}
