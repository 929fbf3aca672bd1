/** Promises 11 to 17: what is done. */
final class DoneTests {
    private static final int NONE = RazorTalk.NONE, UNKNOWN = RazorTalk.UNKNOWN, NOT = RazorTalk.NOT,
            FULL = RazorTalk.FULL;

    private DoneTests() {
    }

    static void run() {
        shavePlain();
        shaveBailed();
        shaveReserved();
        shaveNicked();
        shaveRefused();
        day();
        talk();
        talkRefused();
        burn();
        undo();
        undoEach();
        undoEight();
        keep();
        keepIsNotUndone();
        back();
    }

    private static void shavePlain() {
        Check.begin("promise 11, plain");
        RazorTalk x = Check.told("town 2;plain 0;plain 42;beard 1 2 3;beard 1 3 9");
        for (int strip = 0; strip < 6; strip++) Check.due("shave of " + strip, x.shave(1, 1, strip), strip % 2);
        Check.due("knows(1, 1, 0)", x.knows(1, 1, 0), 63);
        Check.due("knows(1, 1, 1)", x.knows(1, 1, 1), 42);
        Check.due("knows(0, 1, 0)", x.knows(0, 1, 0), 0);
        Check.due("knows(1, 0, 0)", x.knows(1, 0, 0), 0);
        Check.due("person(1, 2)", x.person(1, 2), 63);
        Check.due("person(1, 3)", x.person(1, 3), 0);
    }

    private static void shaveBailed() {
        Check.begin("promise 11, bailed");
        RazorTalk x = Check.told("town 2;bailed 3;beard 0 0 2;beard 0 1 3;beard 0 2 9");
        Check.due("shave at 2", x.shave(0, 0, 0), NONE);
        Check.due("beard(0, 0), though nothing was told", x.beard(0, 0), 0);
        Check.due("knows, nothing was told", x.knows(0, 0, 0), 0);
        Check.due("shave at 3", x.shave(0, 0, 1), 1);
        Check.due("shave at 0", x.shave(0, 0, 1), NONE);
        Check.due("knows(0, 0, 0), he knows what he knew", x.knows(0, 0, 0), 2);
        Check.due("knows(0, 0, 1), he knows what he knew", x.knows(0, 0, 1), 2);
        Check.due("shave at 9", x.shave(0, 0, 2), 0);
        Check.due("knows(0, 0, 0)", x.knows(0, 0, 0), 6);
    }

    private static void shaveReserved() {
        Check.begin("promise 11, reserved");
        RazorTalk x = Check.told("town 2;reserved 61;beard 0 2 7;beard 0 5 9");
        Check.due("shave of the moustache", x.shave(0, 0, 2), NONE);
        Check.due("beard(0, 2)", x.beard(0, 2), 0);
        Check.due("knows(0, 0, 0)", x.knows(0, 0, 0), 0);
        Check.due("shave of 0", x.shave(0, 0, 0), 1);
        Check.due("shave of 1", x.shave(0, 0, 1), 0);
        Check.due("shave of 3", x.shave(0, 0, 3), 1);
        Check.due("shave of 5", x.shave(0, 0, 5), 1);
        Check.due("knows(0, 0, 0)", x.knows(0, 0, 0), 43);
    }

    private static void shaveNicked() {
        Check.begin("promise 11, nicked");
        RazorTalk x = Check.told("town 2;nicked 3;beard 0 0 4;beard 0 1 5;beard 0 2 4;beard 0 3 9");
        Check.due("shave at 4", x.shave(0, 0, 0), 1);
        Check.due("shave at 5", x.shave(0, 0, 1), 0);
        Check.due("shave of 0 at 4", x.shave(0, 0, 2), 0);
        Check.due("shave of 0 at 9", x.shave(0, 0, 3), 1);
        Check.due("knows(0, 0, 0)", x.knows(0, 0, 0), 15);
        Check.due("knows(0, 0, 1)", x.knows(0, 0, 1), 9);
        Check.due("shave at 0", x.shave(0, 0, 1), 1);
        Check.due("shave of 0 at 0", x.shave(0, 0, 3), 0);
        Check.due("knows(0, 0, 1), in place of what he knew", x.knows(0, 0, 1), 3);
    }

    private static void shaveRefused() {
        Check.begin("promise 11, refused");
        RazorTalk x = Check.told("town 2;plain 3;beard 0 0 4");
        String ahead = Check.picture(x);
        Check.due("shave(2, 0, 0)", x.shave(2, 0, 0), UNKNOWN);
        Check.due("shave(-1, 0, 0)", x.shave(-1, 0, 0), UNKNOWN);
        Check.due("shave(0, 1, 0)", x.shave(0, 1, 0), UNKNOWN);
        Check.due("shave(0, -1, 0)", x.shave(0, -1, 0), UNKNOWN);
        Check.due("shave(0, 0, 6)", x.shave(0, 0, 6), UNKNOWN);
        Check.due("shave(0, 0, -1)", x.shave(0, 0, -1), UNKNOWN);
        Check.holds("nothing changes", ahead.equals(Check.picture(x)));
    }

    private static void day() {
        Check.begin("promise 12");
        RazorTalk x = Check.told("town 2;plain 3;nicked 4;beard 0 0 8;beard 1 5 9");
        Check.due("day()", x.day(), 1);
        Check.due("beard(0, 0)", x.beard(0, 0), 9);
        Check.due("beard(1, 5)", x.beard(1, 5), 9);
        Check.due("beard(1, 0)", x.beard(1, 0), 1);
        Check.due("day()", x.day(), 2);
        Check.due("beard(0, 0)", x.beard(0, 0), 9);
        Check.due("count(4)", x.count(4), 9 + 5 * 2 + 5 * 2 + 9);
        x.shave(0, 0, 0);
        for (int day = 3; day <= 20; day++) Check.due("day()", x.day(), day);
        Check.due("count(4), all are as long as can be", x.count(4), 12 * 9);
        Check.due("count(5)", x.count(5), 1);
        // Behind the 512th call an answer is free; yet the limit is the document's.
        x = new RazorTalk();
        for (int day = 1; day <= 999; day++) x.day();
        Check.due("count(3)", x.count(3), 999);
        Check.due("day() on 999", x.day(), FULL);
        Check.due("count(3)", x.count(3), 999);
        Check.due("undo()", x.undo(), 7);
        Check.due("count(3)", x.count(3), 998);
    }

    private static void talk() {
        Check.begin("promise 13");
        RazorTalk x = Check.told("town 3;nicked 63;plain 1;beard 0 0 5;beard 0 1 5");
        x.shave(0, 0, 0);
        x.shave(0, 0, 1);
        x.shave(0, 0, 2);
        x.shave(1, 0, 0);
        x.shave(1, 0, 3);
        Check.due("knows(0, 0, 1)", x.knows(0, 0, 1), 4);
        Check.due("knows(1, 0, 1)", x.knows(1, 0, 1), 9);
        Check.due("talk(0, 1, 0)", x.talk(0, 1, 0), 15);
        Check.due("knows(1, 0, 1), in place of what he knew", x.knows(1, 0, 1), 12);
        Check.due("knows(0, 0, 0), the first one's stays", x.knows(0, 0, 0), 7);
        Check.due("knows(0, 0, 1), the first one's stays", x.knows(0, 0, 1), 4);
        Check.due("talk(2, 1, 0), of one who knows nothing", x.talk(2, 1, 0), 15);
        Check.due("talk(1, 2, 1), of another person", x.talk(1, 2, 1), 0);
        Check.due("knows(2, 0, 0)", x.knows(2, 0, 0), 0);
        Check.due("talk(0, 2, 0)", x.talk(0, 2, 0), 7);
        Check.due("knows(2, 0, 1)", x.knows(2, 0, 1), 4);
        Check.due("knows(2, 1, 0)", x.knows(2, 1, 0), 0);
        Check.due("count(7)", x.count(7), 8);
    }

    private static void talkRefused() {
        Check.begin("promise 13, refused");
        RazorTalk x = Check.told("town 3;plain 63");
        x.shave(0, 0, 0);
        String ahead = Check.picture(x);
        Check.due("talk(0, 0, 0)", x.talk(0, 0, 0), UNKNOWN);
        Check.due("talk(3, 0, 0)", x.talk(3, 0, 0), UNKNOWN);
        Check.due("talk(-1, 0, 0)", x.talk(-1, 0, 0), UNKNOWN);
        Check.due("talk(0, 3, 0)", x.talk(0, 3, 0), UNKNOWN);
        Check.due("talk(0, -1, 0)", x.talk(0, -1, 0), UNKNOWN);
        Check.due("talk(0, 1, 1)", x.talk(0, 1, 1), UNKNOWN);
        Check.due("talk(0, 1, -1)", x.talk(0, 1, -1), UNKNOWN);
        Check.holds("nothing changes", ahead.equals(Check.picture(x)));
    }

    private static void burn() {
        Check.begin("promise 14");
        RazorTalk x = Check.told("town 2;plain 63;plain 1");
        Check.due("burn(0, 0), of nothing", x.burn(0, 0), NOT);
        Check.due("count(7) behind NOT", x.count(7), 0);
        x.shave(0, 0, 0);
        x.shave(0, 0, 4);
        x.shave(0, 0, 5);
        x.shave(0, 1, 1);
        x.shave(1, 0, 1);
        Check.due("burn(0, 0)", x.burn(0, 0), 3);
        Check.due("knows(0, 0, 0)", x.knows(0, 0, 0), 0);
        Check.due("knows(0, 0, 1)", x.knows(0, 0, 1), 0);
        Check.due("knows(0, 1, 0)", x.knows(0, 1, 0), 2);
        Check.due("knows(1, 0, 0)", x.knows(1, 0, 0), 2);
        Check.due("count(7)", x.count(7), 6);
        Check.due("burn(0, 0) again", x.burn(0, 0), NOT);
        Check.due("burn(0, 1), of a 0", x.burn(0, 1), 1);
        Check.due("burn(2, 0)", x.burn(2, 0), UNKNOWN);
        Check.due("burn(-1, 0)", x.burn(-1, 0), UNKNOWN);
        Check.due("burn(0, 2)", x.burn(0, 2), UNKNOWN);
        Check.due("burn(0, -1)", x.burn(0, -1), UNKNOWN);
    }

    private static void undo() {
        Check.begin("promise 15");
        RazorTalk x = new RazorTalk();
        Check.due("undo() of nothing", x.undo(), NOT);
        Check.tell(x, "town 2;bailed 1;beard 0 0 2");
        Check.due("undo() of a text", x.undo(), NOT);
        x.shave(0, 1, 0);
        x.burn(0, 0);
        x.talk(1, 1, 0);
        x.keep(0);
        x.seen(0, 0, 0);
        Check.due("undo() of what cannot be", x.undo(), NOT);
        x.day();
        x.shave(0, 0, 0);
        x.shave(0, 0, 0);
        x.talk(0, 1, 0);
        Check.due("undo() of a talk", x.undo(), 3);
        Check.due("undo() of a shave that told nothing", x.undo(), 2);
        Check.due("count(5)", x.count(5), 1);
        Check.due("undo() of a shave", x.undo(), 1);
        Check.due("count(5)", x.count(5), 0);
        Check.due("beard(0, 0)", x.beard(0, 0), 3);
        Check.due("undo() of a day", x.undo(), 0);
        Check.due("beard(0, 0)", x.beard(0, 0), 2);
        Check.due("count(3)", x.count(3), 0);
        Check.due("undo()", x.undo(), NOT);
        Check.due("count(6), what is seen stays", x.count(6), 1);
    }

    private static void undoEach() {
        Check.begin("promise 15, each");
        RazorTalk x = Check.told("town 2;nicked 63;plain 9;beard 0 0 5;beard 1 3 9;beard 1 4 8;rumour 9;rumour 62");
        x.shave(0, 0, 0);
        x.shave(1, 0, 0);
        x.shave(1, 1, 3);
        String ahead = Check.picture(x);
        x.shave(0, 0, 0);
        Check.due("undo() of a shave by which another part is known", x.undo(), 3);
        Check.holds("all is as it was ahead of a shave", ahead.equals(Check.picture(x)));
        x.day();
        Check.due("undo() of a day", x.undo(), 3);
        Check.holds("all is as it was ahead of a day", ahead.equals(Check.picture(x)));
        x.talk(0, 1, 0);
        Check.due("undo() of a talk", x.undo(), 3);
        Check.holds("all is as it was ahead of a talk", ahead.equals(Check.picture(x)));
        x.burn(1, 1);
        Check.due("undo() of a burn", x.undo(), 3);
        Check.holds("all is as it was ahead of a burn", ahead.equals(Check.picture(x)));
        x.write('p');
        Check.due("undo()", x.undo(), 2);
        Check.due("count(8), the text stays", x.count(8), 1);
    }

    private static void undoEight() {
        Check.begin("promise 15, eight");
        RazorTalk x = Check.told("town 2;plain 63");
        for (int day = 1; day <= 11; day++) {
            x.day();
            Check.due("count(7)", x.count(7), Math.min(8, day));
        }
        for (int left = 7; left >= 0; left--) {
            Check.due("undo()", x.undo(), left);
            Check.due("count(3)", x.count(3), 3 + left);
        }
        Check.due("undo()", x.undo(), NOT);
        for (int day = 4; day <= 8; day++) Check.due("day()", x.day(), day);
        for (int left = 4; left >= 0; left--) Check.due("undo()", x.undo(), left);
        Check.due("undo()", x.undo(), NOT);
        Check.due("count(3)", x.count(3), 3);
    }

    private static void keep() {
        Check.begin("promise 16");
        RazorTalk x = new RazorTalk();
        Check.due("keep(0) of a new object", x.keep(0), 0);
        Check.due("keep(2)", x.keep(2), UNKNOWN);
        Check.due("keep(-1)", x.keep(-1), UNKNOWN);
        x.day();
        Check.due("keep(1)", x.keep(1), 1);
        x.day();
        Check.due("back(0)", x.back(0), 0);
        Check.due("back(1)", x.back(1), 1);
        x.day();
        Check.due("keep(1), in place of the other one", x.keep(1), 2);
        x.day();
        Check.due("back(1)", x.back(1), 2);
        Check.due("back(0)", x.back(0), 0);
    }

    private static void keepIsNotUndone() {
        Check.begin("promise 16, undo");
        RazorTalk x = Check.told("town 2;plain 63;beard 0 0 1");
        x.day();
        x.shave(0, 0, 1);
        Check.due("keep(1)", x.keep(1), 1);
        Check.due("count(7), keep(1) is none of these", x.count(7), 2);
        x.undo();
        x.undo();
        Check.due("count(3)", x.count(3), 0);
        Check.due("back(1)", x.back(1), 1);
        Check.due("knows(0, 0, 0)", x.knows(0, 0, 0), 2);
        Check.due("beard(0, 0)", x.beard(0, 0), 2);
        Check.due("undo()", x.undo(), NOT);
    }

    private static void back() {
        Check.begin("promise 17");
        RazorTalk x = Check.told("town 2;plain 63;nicked 2;beard 1 0 4;rumour 5;rumour 6");
        Check.due("back(0), nothing is kept", x.back(0), NOT);
        Check.due("back(2)", x.back(2), UNKNOWN);
        Check.due("back(-1)", x.back(-1), UNKNOWN);
        x.day();
        x.shave(1, 1, 0);
        x.shave(0, 0, 5);
        x.keep(1);
        Check.due("back(0), the other one is kept", x.back(0), NOT);
        Check.due("count(7) behind NOT", x.count(7), 3);
        Check.due("back(1), nothing became other", x.back(1), 1);
        Check.due("count(7)", x.count(7), 0);
        String kept = Check.picture(x);
        x.day();
        x.shave(1, 1, 0);
        x.talk(0, 1, 0);
        x.burn(0, 0);
        Check.due("back(1)", x.back(1), 1);
        Check.holds("all is as it was kept", kept.equals(Check.picture(x)));
        Check.due("undo()", x.undo(), NOT);
        x.seen(0, 0, 1);
        x.write('p');
        x.day();
        Check.due("back(1) again", x.back(1), 1);
        Check.due("count(6), what is seen stays", x.count(6), 1);
        Check.due("count(8), the text stays", x.count(8), 1);
        x.erase();
        Check.write(x, "wig");
        x.town();
        Check.due("back(1) behind a text that was not done", x.back(1), 1);
        x.erase();
        Check.tell(x, "rumour 1");
        Check.due("back(1) behind a text", x.back(1), NOT);
    }
}
