/** Boundary cases of promises 11 to 17: what is done, undone and kept. */
final class DoneEdges {
    private static final int NONE = RazorTalk.NONE, UNKNOWN = RazorTalk.UNKNOWN, NOT = RazorTalk.NOT,
            FULL = RazorTalk.FULL;

    private DoneEdges() {
    }

    static void run() {
        shaveByBeards();
        shaveReserved();
        shaveWhatHeKnew();
        shaveFirstAndLast();
        shaveRefused();
        dayOfLongBeards();
        lastDay();
        talkOfNothing();
        talkOfAll();
        talkRefused();
        burnFewestAndMost();
        burnRefused();
        undoOfEach();
        undoTheLastEight();
        undoRefused();
        keepTwo();
        keepRefused();
        backAgain();
        backRefused();
    }

    /** What is told by a strip of part 1 with each beard. */
    private static int shaveBy(String kind, int part, int beard) {
        RazorTalk x = Check.told(kind + " " + (part == 1 ? 8 : 55) + ";beard 0 3 " + beard);
        int told = x.shave(0, 0, 3);
        Check.due("beard(0, 3) behind shave", x.beard(0, 3), 0);
        Check.due("knows(0, 0, 0) behind shave", x.knows(0, 0, 0), told == NONE ? 0 : 8);
        Check.due("knows(0, 0, 1) behind shave", x.knows(0, 0, 1), told == 1 ? 8 : 0);
        return told;
    }

    private static void shaveByBeards() {
        Edge.of(11, "A PLAIN one TELLS the PART of his SECRET as it is");
        for (int beard = 0; beard <= 9; beard++) {
            Check.due("part 0 by " + beard, shaveBy("plain", 0, beard), 0);
            Check.due("part 1 by " + beard, shaveBy("plain", 1, beard), 1);
        }

        Edge.of(11, "a BAILED one as a PLAIN one, but nothing if the BEARD is less than 3");
        for (int beard = 0; beard <= 9; beard++) {
            Check.due("part 0 by " + beard, shaveBy("bailed", 0, beard), beard < 3 ? NONE : 0);
            Check.due("part 1 by " + beard, shaveBy("bailed", 1, beard), beard < 3 ? NONE : 1);
        }

        Edge.of(11, "a NICKED one the PART as it is, if the BEARD is less than 5, else the other way round");
        for (int beard = 0; beard <= 9; beard++) {
            Check.due("part 0 by " + beard, shaveBy("nicked", 0, beard), beard < 5 ? 0 : 1);
            Check.due("part 1 by " + beard, shaveBy("nicked", 1, beard), beard < 5 ? 1 : 0);
        }
    }

    private static void shaveReserved() {
        Edge.of(11, "a RESERVED one as a PLAIN one, but nothing of STRIP 2");
        int[] due = {1, 0, NONE, 0, 1, 0};
        for (int beard = 0; beard <= 9; beard++) {
            RazorTalk x = Check.told("reserved 21");
            for (int day = 0; day < beard; day++) x.day();
            for (int strip = 0; strip < 6; strip++) {
                Check.due("shave(0, 0, " + strip + ") by " + beard, x.shave(0, 0, strip), due[strip]);
                Check.due("beard(0, " + strip + ")", x.beard(0, strip), 0);
            }
            Check.due("knows(0, 0, 0)", x.knows(0, 0, 0), 59);
            Check.due("knows(0, 0, 1)", x.knows(0, 0, 1), 17);
        }
    }

    private static void shaveWhatHeKnew() {
        Edge.of(11, "(in place of what he knew of that STRIP of his; nothing TOLD: he knows what he knew)");
        RazorTalk x = Check.told("nicked 3;bailed 3;beard 0 0 5;beard 0 1 5;beard 1 0 3;beard 1 1 3");
        x.shave(0, 0, 0);
        x.shave(0, 0, 1);
        Check.due("knows(0, 0, 1), both the other way round", x.knows(0, 0, 1), 0);
        Check.due("shave(0, 0, 0) again", x.shave(0, 0, 0), 1);
        Check.due("knows(0, 0, 0)", x.knows(0, 0, 0), 3);
        Check.due("knows(0, 0, 1), of that strip only", x.knows(0, 0, 1), 1);
        x.shave(0, 1, 0);
        Check.due("shave(0, 1, 0) again", x.shave(0, 1, 0), NONE);
        Check.due("knows(0, 1, 0), he knows what he knew", x.knows(0, 1, 0), 1);
        Check.due("knows(0, 1, 1), he knows what he knew", x.knows(0, 1, 1), 1);
        Check.due("shave(1, 1, 0)", x.shave(1, 1, 0), NONE);
        Check.due("knows(1, 1, 0), he knew nothing", x.knows(1, 1, 0), 0);

        Edge.of(11, "the BEARD there is 0 then");
        x = Check.told("bailed 3;beard 0 0 2;beard 0 1 9");
        Check.due("shave(0, 0, 0)", x.shave(0, 0, 0), NONE);
        Check.due("beard(0, 0), though nothing was told", x.beard(0, 0), 0);
        Check.due("beard(0, 1), another strip", x.beard(0, 1), 9);
        Check.due("shave(0, 0, 1)", x.shave(0, 0, 1), 1);
        Check.due("beard(0, 1)", x.beard(0, 1), 0);
    }

    private static void shaveFirstAndLast() {
        Edge.of(11, "what is TOLD (0, 1; NONE).");
        RazorTalk x = AskedEdges.fullTown();
        Check.due("shave(3, 0, 5)", x.shave(3, 0, 5), 1);
        Check.due("shave(3, 5, 0)", x.shave(3, 5, 0), 0);
        Check.due("shave(0, 2, 5)", x.shave(0, 2, 5), 1);
        Check.due("knows(3, 0, 0)", x.knows(3, 0, 0), 32);
        Check.due("knows(3, 5, 0)", x.knows(3, 5, 0), 1);
        Check.due("knows(0, 2, 1)", x.knows(0, 2, 1), 32);
        Check.due("count(5)", x.count(5), 3);
    }

    private static void shaveRefused() {
        Edge.of(11, "UNKNOWN (no such person, BARBER, STRIP, RUMOUR;");
        Edge.refused("shave(3, 0, 0)", UNKNOWN, y -> y.shave(3, 0, 0));
        Edge.refused("shave(0, 2, 0)", UNKNOWN, y -> y.shave(0, 2, 0));
        for (int no : Edge.NOBODY) {
            Edge.refused("shave(" + no + ", 0, 0)", UNKNOWN, y -> y.shave(no, 0, 0));
            Edge.refused("shave(0, " + no + ", 0)", UNKNOWN, y -> y.shave(0, no, 0));
            Edge.refused("shave(0, 0, " + no + ")", UNKNOWN, y -> y.shave(0, 0, no));
        }
        Edge.refused(RazorTalk::new, "shave(0, 0, 0) of nobody", UNKNOWN, y -> y.shave(0, 0, 0));
    }

    private static void dayOfLongBeards() {
        Edge.of(12, "each BEARD is 1 more (9 at most); it is the next DAY");
        RazorTalk x = Check.told("plain 0;nicked 9;beard 0 0 8;beard 0 1 9;beard 1 5 9");
        Check.due("day()", x.day(), 1);
        Check.due("beard(0, 0)", x.beard(0, 0), 9);
        Check.due("beard(0, 1)", x.beard(0, 1), 9);
        Check.due("beard(0, 2)", x.beard(0, 2), 1);
        Check.due("beard(1, 5)", x.beard(1, 5), 9);
        Check.due("beard(1, 4)", x.beard(1, 4), 1);
        Check.due("day()", x.day(), 2);
        Check.due("beard(0, 0)", x.beard(0, 0), 9);
        for (int n = 3; n <= 12; n++) Check.due("day()", x.day(), n);
        Check.due("count(4)", x.count(4), 108);

        Edge.of(12, "A DAY: the DAY.");
        x = new RazorTalk();
        Check.due("day() where there is nobody", x.day(), 1);
        Check.due("count(4)", x.count(4), 0);
        x.undo();
        Check.due("day() behind undo()", x.day(), 1);
    }

    /** Behind the 512th call an answer is free; yet this limit cannot be reached with fewer calls. */
    private static RazorTalk onDay(int last) {
        RazorTalk x = Check.told("plain 3");
        for (int n = 0; n < last; n++) x.day();
        return x;
    }

    private static void lastDay() {
        Edge.of(12, "FULL: it is DAY 999.");
        RazorTalk x = onDay(998);
        Check.due("day() on 998", x.day(), 999);
        Check.due("day() on 999", x.day(), FULL);
        Check.due("count(3)", x.count(3), 999);
        Edge.refused(() -> onDay(999), "day() on 999", FULL, RazorTalk::day);
    }

    private static void talkOfNothing() {
        Edge.of(13, "the second one knows all that the first one knows of him");
        RazorTalk x = Check.told("town 4;plain 63;plain 63");
        Check.due("talk(0, 3, 0), nobody knows a thing", x.talk(0, 3, 0), 0);
        x.shave(3, 0, 5);
        Check.due("talk(0, 3, 0), the first one knows nothing", x.talk(0, 3, 0), 32);
        Check.due("knows(3, 0, 1)", x.knows(3, 0, 1), 32);
        Check.due("talk(3, 0, 1), of another one", x.talk(3, 0, 1), 0);
        Check.due("knows(0, 0, 0)", x.knows(0, 0, 0), 0);
        Check.due("talk(3, 0, 0), the second one knows nothing", x.talk(3, 0, 0), 32);
        Check.due("knows(0, 0, 1)", x.knows(0, 0, 1), 32);
        Check.due("knows(3, 0, 0), the first one's stays", x.knows(3, 0, 0), 32);
        Check.due("knows(1, 0, 0), a third one", x.knows(1, 0, 0), 0);
    }

    private static void talkOfAll() {
        Edge.of(13, "in place of what he knew of these STRIPS");
        RazorTalk x = Check.told("town 2;nicked 31");
        for (int n = 0; n < 5; n++) x.day();
        for (int strip = 0; strip < 5; strip++) x.shave(0, 0, strip);
        for (int strip = 0; strip < 6; strip++) x.shave(1, 0, strip);
        Check.due("knows(0, 0, 1), all the other way round", x.knows(0, 0, 1), 0);
        Check.due("knows(1, 0, 1)", x.knows(1, 0, 1), 63);
        Check.due("talk(0, 1, 0)", x.talk(0, 1, 0), 63);
        Check.due("knows(1, 0, 1), strip 5 stays", x.knows(1, 0, 1), 32);
        Check.due("talk(1, 0, 0)", x.talk(1, 0, 0), 63);
        Check.due("knows(0, 0, 1)", x.knows(0, 0, 1), 32);
    }

    private static void talkRefused() {
        Edge.of(13, "one and himself, where two are asked");
        for (int barber = 0; barber < 3; barber++) {
            int one = barber;
            Edge.refused("talk(" + one + ", " + one + ", 0)", UNKNOWN, y -> y.talk(one, one, 0));
        }

        Edge.of(13, "STRIPS that the other one knows then (bits). UNKNOWN.");
        Edge.refused("talk(3, 0, 0)", UNKNOWN, y -> y.talk(3, 0, 0));
        Edge.refused("talk(0, 3, 0)", UNKNOWN, y -> y.talk(0, 3, 0));
        Edge.refused("talk(0, 1, 2)", UNKNOWN, y -> y.talk(0, 1, 2));
        for (int no : Edge.NOBODY) {
            Edge.refused("talk(" + no + ", 1, 0)", UNKNOWN, y -> y.talk(no, 1, 0));
            Edge.refused("talk(0, " + no + ", 0)", UNKNOWN, y -> y.talk(0, no, 0));
            Edge.refused("talk(0, 1, " + no + ")", UNKNOWN, y -> y.talk(0, 1, no));
            Edge.refused("talk(" + no + ", " + no + ", 0)", UNKNOWN, y -> y.talk(no, no, 0));
        }
        Edge.refused(RazorTalk::new, "talk(0, 1, 0) of nobody", UNKNOWN, y -> y.talk(0, 1, 0));
    }

    private static void burnFewestAndMost() {
        Edge.of(14, "a BARBER knows nothing of one any more");
        RazorTalk x = AskedEdges.fullTown();
        for (int strip = 0; strip < 6; strip++) x.shave(3, 0, strip);
        x.shave(3, 5, 2);
        x.shave(2, 0, 0);
        Check.due("burn(3, 0), of all", x.burn(3, 0), 6);
        Check.due("knows(3, 0, 0)", x.knows(3, 0, 0), 0);
        Check.due("knows(3, 0, 1)", x.knows(3, 0, 1), 0);
        Check.due("knows(3, 5, 0), of another one", x.knows(3, 5, 0), 4);
        Check.due("knows(2, 0, 0), another barber", x.knows(2, 0, 0), 1);
        Check.due("burn(3, 5), of a part that is 0", x.burn(3, 5), 1);
        Check.due("burn(2, 0), of a part that is 1", x.burn(2, 0), 1);
        Check.due("count(5)", x.count(5), 0);
    }

    private static void burnRefused() {
        Edge.of(14, "UNKNOWN; NOT: none.");
        Edge.refused("burn(1, 0)", NOT, y -> y.burn(1, 0));
        Edge.refused("burn(0, 1)", NOT, y -> y.burn(0, 1));
        Edge.refused("burn(3, 0)", UNKNOWN, y -> y.burn(3, 0));
        Edge.refused("burn(1, 2)", UNKNOWN, y -> y.burn(1, 2));
        for (int no : Edge.NOBODY) {
            Edge.refused("burn(" + no + ", 0)", UNKNOWN, y -> y.burn(no, 0));
            Edge.refused("burn(1, " + no + ")", UNKNOWN, y -> y.burn(1, no));
        }
        Edge.refused(RazorTalk::new, "burn(0, 0) of nobody", UNKNOWN, y -> y.burn(0, 0));
    }

    private static void undoOfEach() {
        Edge.of(15, "The latest shave(), day(), talk(), burn() is undone");
        RazorTalk x = Check.told("town 2;nicked 1;beard 0 0 5;rumour 0;rumour 1");
        String[] ahead = new String[4];
        ahead[0] = Check.picture(x);
        x.shave(0, 0, 0);
        ahead[1] = Check.picture(x);
        x.day();
        ahead[2] = Check.picture(x);
        x.talk(0, 1, 0);
        ahead[3] = Check.picture(x);
        x.burn(0, 0);
        for (int left = 3; left >= 0; left--) {
            Check.due("undo()", x.undo(), left);
            Check.holds("all is as it was", ahead[left].equals(Check.picture(x)));
        }

        x = AskedEdges.fullTown();
        AskedEdges.allKnowOneStrip(x);
        x.keep(1);
        x.back(1);
        String full = Check.picture(x);
        for (int person = 0; person < 6; person++) x.burn(3, person);
        x.day();
        x.talk(2, 3, 5);
        for (int n = 0; n < 8; n++) x.undo();
        Check.holds("all of four barbers and six people is as it was", full.equals(Check.picture(x)));
        x.burn(3, 5);
        x.shave(3, 1, 5);
        x.back(1);
        Check.holds("all of four barbers and six people is as it was kept", full.equals(Check.picture(x)));

        Edge.of(15, "(also one by which nothing became other;");
        x = Check.told("town 2;reserved 0");
        x.shave(0, 0, 2);
        x.talk(0, 1, 0);
        Check.due("count(7)", x.count(7), 2);
        Check.due("undo() of a talk of nothing", x.undo(), 1);
        Check.due("undo() of a shave that tells nothing", x.undo(), 0);
        x.shave(0, 0, 0);
        x.shave(0, 0, 0);
        Check.due("undo() of the same once more", x.undo(), 1);
        Check.due("knows(0, 0, 0)", x.knows(0, 0, 0), 1);

        Edge.of(15, "how many can be undone yet");
        x = Check.told("town 2;plain 1");
        x.day();
        x.shave(0, 0, 0);
        x.undo();
        x.undo();
        Check.due("undo(), what is undone can't be undone", x.undo(), NOT);
        x.day();
        x.undo();
        x.shave(0, 0, 0);
        Check.due("undo() of a shave in place of a day", x.undo(), 0);
        Check.due("count(3)", x.count(3), 0);
        Check.due("count(5)", x.count(5), 0);
    }

    private static void undoTheLastEight() {
        Edge.of(15, "the last 8 can be)");
        for (int days = 7; days <= 25; days++) {
            RazorTalk x = onDay(days);
            int can = Math.min(8, days);
            Check.due("count(7) behind " + days, x.count(7), can);
            for (int left = can - 1; left >= 0; left--) Check.due("undo() behind " + days, x.undo(), left);
            Check.due("undo() behind all", x.undo(), NOT);
            Check.due("count(3) behind all", x.count(3), days - can);
            Check.due("beard(0, 0) behind all", x.beard(0, 0), Math.min(9, days - can));
        }
        RazorTalk x = onDay(8);
        for (int round = 0; round < 5; round++) {
            for (int n = 0; n < 3; n++) x.undo();
            for (int n = 0; n < 4; n++) x.day();
        }
        Check.due("count(3)", x.count(3), 13);
        for (int left = 7; left >= 0; left--) Check.due("undo()", x.undo(), left);
        Check.due("count(3)", x.count(3), 5);
    }

    private static void undoRefused() {
        Edge.of(15, "NOT: none.");
        Edge.refused(RazorTalk::new, "undo() of a new one", NOT, RazorTalk::undo);
        Edge.refused(() -> Check.told("town 1;plain 3"), "undo() behind a text", NOT, RazorTalk::undo);
        Edge.refused(() -> {
            RazorTalk x = Edge.busy();
            x.back(0);
            return x;
        }, "undo() behind back(0)", NOT, RazorTalk::undo);
        Edge.refused(() -> {
            RazorTalk x = Check.told("town 2;plain 1;rumour 1");
            x.shave(2, 0, 0);
            x.talk(1, 1, 0);
            x.burn(0, 0);
            x.keep(1);
            x.back(0);
            x.seen(0, 0, 0);
            x.forget();
            x.smooth(0, 0, 1);
            return x;
        }, "undo() behind what was refused and what cannot be", NOT, RazorTalk::undo);
    }

    private static void keepTwo() {
        Edge.of(16, "is kept (k 0, 1): the DAY.");
        RazorTalk x = Check.told("town 2;plain 1");
        Check.due("keep(0)", x.keep(0), 0);
        x.day();
        Check.due("keep(1)", x.keep(1), 1);
        x.day();
        Check.due("back(0)", x.back(0), 0);
        Check.due("back(1)", x.back(1), 1);
        Check.due("keep(0), in place of what was", x.keep(0), 1);
        x.day();
        Check.due("back(0)", x.back(0), 1);

        Edge.of(16, "All as it is (but THE TEXT, SEEN, what can be undone)");
        x = Edge.busy();
        String picture = Check.picture(x);
        x.keep(0);
        Check.holds("nothing else changes by keep(0)", picture.equals(Check.picture(x)));
        Check.due("undo() behind keep(0)", x.undo(), 3);
        x = Edge.busy();
        x.keep(0);
        x.erase();
        x.write('p');
        x.forget();
        x.seen(1, 1, 1);
        Check.due("back(0)", x.back(0), 1);
        Check.due("count(8), the text is as it was written since", x.count(8), 1);
        Check.due("count(6), what is seen is as it was since", x.count(6), 1);
        Check.due("count(7)", x.count(7), 0);
        Check.due("count(5)", x.count(5), 3);
    }

    private static void keepRefused() {
        Edge.of(16, "UNKNOWN: no such k.");
        Edge.refused("keep(2)", UNKNOWN, y -> y.keep(2));
        for (int no : Edge.NOBODY) Edge.refused("keep(" + no + ")", UNKNOWN, y -> y.keep(no));
        Edge.refused(RazorTalk::new, "keep(2) of a new one", UNKNOWN, y -> y.keep(2));
        Edge.refused(RazorTalk::new, "keep(-1) of a new one", UNKNOWN, y -> y.keep(-1));
        RazorTalk x = new RazorTalk();
        Check.due("keep(0) of a new one, where there is nobody", x.keep(0), 0);
        Check.due("back(0)", x.back(0), 0);
    }

    private static void backAgain() {
        Edge.of(17, "It is as it was kept, nothing can be undone: the DAY.");
        RazorTalk x = Check.told("town 2;nicked 3;beard 0 1 5;rumour 3;rumour 1");
        x.day();
        x.shave(0, 0, 1);
        x.keep(1);
        String[] due = new String[2];
        x.back(1);
        due[1] = Check.picture(x);
        x.shave(0, 0, 1);
        x.day();
        x.talk(0, 1, 0);
        x.keep(0);
        x.back(0);
        due[0] = Check.picture(x);
        for (int k : new int[] {1, 0, 0, 1, 1}) {
            x.burn(0, 0);
            x.day();
            Check.due("back(" + k + ")", x.back(k), k == 1 ? 1 : 2);
            Check.holds("all is as it was kept", due[k].equals(Check.picture(x)));
            Check.due("undo()", x.undo(), NOT);
        }
    }

    private static void backRefused() {
        Edge.of(17, "NOT: nothing was kept since the last text.");
        Edge.refused(RazorTalk::new, "back(0) of a new one", NOT, y -> y.back(0));
        Edge.refused(RazorTalk::new, "back(1) of a new one", NOT, y -> y.back(1));
        for (int k = 0; k < 2; k++) {
            int other = 1 - k;
            Edge.refused(() -> {
                RazorTalk x = Check.told("town 2;plain 1");
                x.day();
                x.keep(1 - other);
                x.day();
                return x;
            }, "back(" + other + ") where only the other one is kept", NOT, y -> y.back(other));
            Edge.refused(() -> {
                RazorTalk x = Edge.busy();
                x.town();
                x.day();
                return x;
            }, "back(" + k + ") behind a text", NOT, y -> y.back(1 - other));
        }

        Edge.of(17, "UNKNOWN; NOT:");
        Edge.refused("back(2)", UNKNOWN, y -> y.back(2));
        for (int no : Edge.NOBODY) Edge.refused("back(" + no + ")", UNKNOWN, y -> y.back(no));
        Edge.refused(RazorTalk::new, "back(2) of a new one", UNKNOWN, y -> y.back(2));
        Edge.refused(RazorTalk::new, "back(-1) of a new one", UNKNOWN, y -> y.back(-1));
    }
}
