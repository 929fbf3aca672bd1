/** Promises 18 to 21: what is foretold. */
final class ForetoldTests {
    private static final int NONE = RazorTalk.NONE, UNKNOWN = RazorTalk.UNKNOWN, OUTSIDE = RazorTalk.OUTSIDE;

    private ForetoldTests() {
    }

    static void run() {
        smoothPlain();
        smoothByKinds();
        smoothByWhatIsKnown();
        smoothRefused();
        next();
        nextByWhatIsKnown();
        meet();
        meetOfFour();
        meetTheLowest();
        meetNobody();
        round();
        roundByWhatIsKnown();
        nothingChanges();
    }

    private static void smoothPlain() {
        Check.begin("promise 18");
        RazorTalk x = Check.told("town 2;plain 21;rumour 21;rumour 20;rumour 23;rumour 0");
        Check.due("smooth(0, 0, 1)", x.smooth(0, 0, 1), 63);
        // 21 and 20 part at strip 0, 21 and 23 at strip 1: of two sets of five the least.
        Check.due("smooth(0, 0, 2)", x.smooth(0, 0, 2), 61);
        Check.due("smooth(0, 0, 3)", x.smooth(0, 0, 3), 60);
        // 21, 20, 23 and 0 are alike at strips 3 and 5 only.
        Check.due("smooth(0, 0, 4)", x.smooth(0, 0, 4), 40);
        Check.due("smooth(0, 0, 5)", x.smooth(0, 0, 5), NONE);
        Check.due("smooth(0, 0, 8)", x.smooth(0, 0, 8), NONE);
        x = Check.told("town 2;plain 0;rumour 63;rumour 62");
        Check.due("smooth, no strip but 0", x.smooth(0, 0, 1), 1);
        Check.due("smooth, the empty set", x.smooth(0, 0, 2), 0);
        x = Check.told("town 2;plain 0");
        Check.due("smooth without a rumour", x.smooth(0, 0, 1), NONE);
    }

    private static void smoothByKinds() {
        Check.begin("promise 18, kinds");
        RazorTalk x = Check.told("town 2;bailed 0;reserved 0;nicked 0;rumour 63;rumour 63;"
                + "beard 0 1 3;beard 0 2 2;beard 2 4 5;beard 2 5 4");
        Check.due("smooth of a bailed one", x.smooth(0, 0, 2), 61);
        Check.due("smooth of a reserved one", x.smooth(0, 1, 1), 4);
        Check.due("smooth of a nicked one", x.smooth(0, 2, 2), 16);
        x.day();
        Check.due("smooth of a bailed one, a day behind", x.smooth(0, 0, 2), 57);
        Check.due("smooth of a nicked one, a day behind", x.smooth(0, 2, 2), 48);
    }

    private static void smoothByWhatIsKnown() {
        Check.begin("promise 18, what is known");
        RazorTalk x = Check.told("town 2;nicked 1;rumour 1;rumour 3;beard 0 0 5");
        x.shave(0, 0, 0);
        Check.due("knows(0, 0, 2)", x.knows(0, 0, 2), 0);
        // What he knows of strip 0 is wrong: only a set with strip 0 makes that good.
        Check.due("smooth(0, 0, 1)", x.smooth(0, 0, 1), 63);
        Check.due("smooth(0, 0, 2)", x.smooth(0, 0, 2), 61);
        Check.due("smooth(1, 0, 2)", x.smooth(1, 0, 2), 61);
        x = Check.told("town 2;bailed 1;rumour 0;beard 0 0 3");
        x.shave(0, 0, 0);
        Check.due("smooth where nothing fits any more", x.smooth(0, 0, 1), NONE);
        Check.due("smooth at another barber's", x.smooth(1, 0, 1), 63);
    }

    private static void smoothRefused() {
        Check.begin("promise 18, refused");
        RazorTalk x = Check.told("town 2;plain 0;rumour 0");
        Check.due("smooth(2, 0, 1)", x.smooth(2, 0, 1), UNKNOWN);
        Check.due("smooth(-1, 0, 0)", x.smooth(-1, 0, 0), UNKNOWN);
        Check.due("smooth(0, 1, 9)", x.smooth(0, 1, 9), UNKNOWN);
        Check.due("smooth(0, -1, 1)", x.smooth(0, -1, 1), UNKNOWN);
        Check.due("smooth(0, 0, 0)", x.smooth(0, 0, 0), OUTSIDE);
        Check.due("smooth(0, 0, 9)", x.smooth(0, 0, 9), OUTSIDE);
        Check.due("smooth(0, 0, -1)", x.smooth(0, 0, -1), OUTSIDE);
    }

    private static void next() {
        Check.begin("promise 19");
        // Alike at strips 0 .. 5: 3 of 4 (ones), 4, 3 (zeros), 2, 2, 4.
        RazorTalk x = Check.told("town 2;plain 0;rumour 13;rumour 9;rumour 17;rumour 16");
        Check.due("next(0, 0)", x.next(0, 0), 3);
        x.shave(0, 0, 3);
        Check.due("knows(0, 0, 2)", x.knows(0, 0, 2), 12);
        Check.due("next(0, 0) among 17 and 16", x.next(0, 0), 0);
        Check.due("next(1, 0)", x.next(1, 0), 3);
        x.shave(0, 0, 0);
        Check.due("next(0, 0) with one that fits", x.next(0, 0), 1);
        x.shave(0, 0, 4);
        Check.due("next(0, 0), no rumour fits", x.next(0, 0), NONE);
        Check.due("next(2, 0)", x.next(2, 0), UNKNOWN);
        Check.due("next(-1, 0)", x.next(-1, 0), UNKNOWN);
        Check.due("next(0, 1)", x.next(0, 1), UNKNOWN);
        Check.due("next(0, -1)", x.next(0, -1), UNKNOWN);
        x = Check.told("town 2;plain 0");
        Check.due("next(0, 0) without a rumour", x.next(0, 0), NONE);
    }

    private static void nextByWhatIsKnown() {
        Check.begin("promise 19, what is known");
        RazorTalk x = Check.told("town 2;plain 63;rumour 63;rumour 63");
        for (int strip = 0; strip < 6; strip++) {
            Check.due("next(0, 0)", x.next(0, 0), strip);
            x.shave(0, 0, strip);
        }
        Check.due("next(0, 0), all are known", x.next(0, 0), NONE);
        Check.due("knows(0, 0, 2)", x.knows(0, 0, 2), 3);
        x = Check.told("town 2;plain 63" + ";rumour 62".repeat(8));
        Check.due("next(0, 0), all eight are alike", x.next(0, 0), 0);
        // Two of one number are two: strip 5 parts 3 from 1, strips 0 .. 3 part 2 from 2.
        x = Check.told("town 2;plain 63;rumour 47;rumour 32;rumour 32;rumour 15");
        Check.due("next(0, 0) by numbers told twice", x.next(0, 0), 0);
        x = Check.told("town 2;plain 63;rumour 60;rumour 36;rumour 36;rumour 24;rumour 1");
        // Alike: 4, 5, 3, 3, 3, 3.
        Check.due("next(0, 0), of several the least", x.next(0, 0), 2);
    }

    private static void meet() {
        Check.begin("promise 20");
        RazorTalk x = Check.told("town 4;plain 0;rumour 0;rumour 1;rumour 2;rumour 4");
        Check.due("meet(0, 0), nobody knows a thing", x.meet(0, 0), NONE);
        x.shave(0, 0, 0);
        x.shave(1, 0, 1);
        x.shave(2, 0, 2);
        x.shave(3, 0, 5);
        Check.due("meet(0, 0)", x.meet(0, 0), 7);
        Check.due("meet(0, 1)", x.meet(0, 1), NONE);
        x.shave(3, 0, 0);
        Check.due("meet(0, 0), of as few the least", x.meet(0, 0), 7);
        x.shave(3, 0, 1);
        Check.due("meet(0, 0), the fewest", x.meet(0, 0), 12);
        x.shave(2, 0, 1);
        x.shave(2, 0, 0);
        Check.due("meet(0, 0), one of them", x.meet(0, 0), 4);
        x.shave(1, 0, 0);
        x.shave(1, 0, 2);
        Check.due("meet(0, 0), the least one", x.meet(0, 0), 2);
        Check.due("meet(1, 0)", x.meet(1, 0), UNKNOWN);
        Check.due("meet(-1, 0)", x.meet(-1, 0), UNKNOWN);
        Check.due("meet(0, 4)", x.meet(0, 4), UNKNOWN);
        Check.due("meet(0, -1)", x.meet(0, -1), UNKNOWN);
    }

    private static void meetOfFour() {
        Check.begin("promise 20, all four");
        RazorTalk x = Check.told("town 4;plain 0;rumour 0;rumour 1;rumour 2;rumour 4;rumour 8");
        for (int barber = 0; barber < 4; barber++) {
            Check.due("meet(0, 0)", x.meet(0, 0), NONE);
            x.shave(barber, 0, barber);
        }
        Check.due("meet(0, 0), all of them", x.meet(0, 0), 15);
        Check.tell(x, "town 1;plain 0;rumour 0;rumour 1");
        x.shave(0, 0, 0);
        Check.due("meet(0, 0), the only one", x.meet(0, 0), 1);
    }

    private static void meetTheLowest() {
        Check.begin("promise 20, the lowest one");
        RazorTalk x = Check.told("town 2;nicked 3;beard 0 0 5;rumour 1;rumour 2;rumour 3");
        x.shave(0, 0, 0);
        x.shave(1, 0, 0);
        x.shave(1, 0, 1);
        Check.due("knows(0, 0, 1)", x.knows(0, 0, 1), 0);
        Check.due("knows(1, 0, 1)", x.knows(1, 0, 1), 3);
        Check.due("meet(0, 2)", x.meet(0, 2), 2);
        // Barber 0 knows a 0 at strip 0, which goes ahead of the 1 that barber 1 knows.
        Check.due("meet(0, 1)", x.meet(0, 1), 1);
        Check.due("meet(0, 0)", x.meet(0, 0), NONE);
        x = Check.told("town 2;nicked 3;beard 0 0 5;rumour 0;rumour 2;rumour 3");
        x.shave(0, 0, 0);
        x.shave(1, 0, 0);
        x.shave(1, 0, 1);
        Check.due("meet(0, 1), both", x.meet(0, 1), 3);
    }

    private static void meetNobody() {
        Check.begin("promise 20, none of them");
        RazorTalk x = Check.told("town 2;plain 3;rumour 40");
        Check.due("meet(0, 0), there is no other one", x.meet(0, 0), 0);
        Check.tell(x, "rumour 3;rumour 3");
        for (int strip = 0; strip < 6; strip++) x.shave(1, 0, strip);
        Check.due("knows(1, 0, 2)", x.knows(1, 0, 2), 6);
        Check.due("meet(0, 1), another one of the same number", x.meet(0, 1), NONE);
        Check.due("meet(0, 0)", x.meet(0, 0), NONE);
    }

    private static void round() {
        Check.begin("promise 21");
        RazorTalk x = Check.told("town 4;plain 0;plain 0;rumour 1;rumour 2;rumour 4;rumour 8;rumour 16;rumour 32;rumour 0");
        // With four BARBERS and i 0: barber 0 has strips 0, 4; 1: 1, 5; 2: 2; 3: 3.
        int[] shaved = {2, 2, 1, 1};
        for (int i = 0; i < 6; i++) {
            for (int j = 0; j < 4; j++) {
                Check.due("round(0, " + i + ", " + j + ")", x.round(0, i, j), 7 - shaved[(j + 8 - i) % 4]);
            }
        }
        Check.due("round(2, 0, 0)", x.round(2, 0, 0), UNKNOWN);
        Check.due("round(-1, 0, 0)", x.round(-1, 0, 0), UNKNOWN);
        Check.due("round(0, 0, 4)", x.round(0, 0, 4), UNKNOWN);
        Check.due("round(0, 6, -1)", x.round(0, 6, -1), UNKNOWN);
        Check.due("round(0, 6, 0)", x.round(0, 6, 0), OUTSIDE);
        Check.due("round(0, -1, 0)", x.round(0, -1, 0), OUTSIDE);
        x = Check.told("town 1;plain 7;rumour 7;rumour 6;rumour 7");
        Check.due("round with one barber", x.round(0, 5, 0), 2);
        x = Check.told("town 3;plain 9;rumour 9;rumour 1;rumour 8;rumour 6");
        // Strips 0 and 3 are barber 0's if i is 0, and barber 1's if i is 1.
        Check.due("round(0, 0, 0)", x.round(0, 0, 0), 1);
        Check.due("round(0, 1, 1)", x.round(0, 1, 1), 1);
        Check.due("round(0, 2, 2)", x.round(0, 2, 2), 1);
        Check.due("round(0, 3, 0)", x.round(0, 3, 0), 1);
        Check.due("round(0, 1, 0)", x.round(0, 1, 0), 3);
    }

    private static void roundByWhatIsKnown() {
        Check.begin("promise 21, what is known");
        RazorTalk x = Check.told("town 2;nicked 3;bailed 0;rumour 3;rumour 1;rumour 2;rumour 0;"
                + "beard 0 0 5;beard 0 1 4;beard 1 0 3");
        Check.due("round(0, 0, 0), the other way round", x.round(0, 0, 0), 2);
        x.shave(0, 0, 0);
        Check.due("knows(0, 0, 2)", x.knows(0, 0, 2), 12);
        Check.due("round(0, 0, 0), told in place of it", x.round(0, 0, 0), 2);
        x.shave(0, 0, 1);
        Check.due("knows(0, 0, 2)", x.knows(0, 0, 2), 4);
        Check.due("round(0, 0, 0), what he knows stays", x.round(0, 0, 0), 1);
        Check.due("round(0, 1, 0), of strip 0 he knows what he knew", x.round(0, 1, 0), 1);
        Check.due("round(0, 0, 1)", x.round(0, 0, 1), 2);
        Check.due("round(1, 0, 0), of a bailed one", x.round(1, 0, 0), 2);
        Check.due("round(1, 0, 1), of a bailed one", x.round(1, 0, 1), 4);
    }

    private static void nothingChanges() {
        Check.begin("promises 18 to 21, nothing changes");
        RazorTalk x = Check.told("town 3;nicked 21;bailed 3;beard 0 0 7;beard 1 1 3;rumour 20;rumour 21;rumour 3");
        x.shave(0, 0, 1);
        x.shave(1, 1, 1);
        String ahead = Check.picture(x);
        x.smooth(0, 0, 1);
        x.next(1, 1);
        x.meet(1, 2);
        x.round(0, 2, 1);
        x.stays(0, 1, 5, 1);
        Check.holds("all is as it was", ahead.equals(Check.picture(x)));
    }
}
