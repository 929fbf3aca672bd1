import java.util.Random;

/** Runs of calls, the same ones each time, on the class and on the plain model side by side. */
final class RandomRuns {
    private static final int RUNS = 600;
    private static final int CALLS = 512;
    private static final String[] WORDS = {"plain", "bailed", "reserved", "nicked", "rumour", "rumour", "rumour", "beard"};

    private final Random dice;
    private final RazorTalk x = new RazorTalk();
    private final PlainModel model = new PlainModel();
    private int calls = 0;
    private String log = "";

    private RandomRuns(int seed) {
        dice = new Random(seed);
    }

    static void run() {
        for (int seed = 1; seed <= RUNS; seed++) new RandomRuns(seed).once(seed);
    }

    private void once(int seed) {
        Check.begin("random run " + seed);
        while (calls < CALLS) {
            if (dice.nextInt(90) == 0 || calls == 0) {
                text();
            } else {
                call();
            }
        }
        compareAll();
    }

    private void due(String call, int got, int want) {
        calls++;
        log = log + call + "=" + got + " ";
        if (calls > CALLS) return;
        Check.due(call + (got == want ? "" : " behind " + log), got, want);
    }

    private int small(int bound) {
        return dice.nextInt(40) == 0 ? dice.nextInt(bound + 4) - 2 : dice.nextInt(bound);
    }

    private String blanks() {
        return " ".repeat(Math.max(0, dice.nextInt(6) - 3));
    }

    private String clause() {
        String word = WORDS[dice.nextInt(WORDS.length)];
        String number = " " + blanks();
        if (!word.equals("beard")) return word + number + small(64);
        return word + number + small(Math.max(1, model.world.people.size() + 1)) + " " + small(6) + " " + small(10);
    }

    private void text() {
        StringBuilder text = new StringBuilder();
        int clauses = 1 + dice.nextInt(14);
        boolean fresh = calls == 0 || dice.nextInt(3) == 0;
        if (fresh) text.append("town ").append(1 + dice.nextInt(4));
        for (int n = 0; n < clauses; n++) {
            if (text.length() > 0) text.append(blanks()).append(';').append(blanks());
            text.append(clause());
        }
        if (dice.nextInt(4) == 0) spoil(text);
        for (int n = 0; n < text.length() && calls < CALLS; n++) {
            int letter = text.charAt(n);
            due("write(" + letter + ")", x.write(letter), model.write(letter));
        }
        due("fault()", x.fault(), model.fault());
        due("town()", x.town(), model.town());
        // A text that does not stand is cut until it does, so that most runs have a town.
        while (model.text.length() > 0 && calls < CALLS) {
            int fault = Math.max(0, model.fault());
            String rest = model.text.substring(0, Math.min(fault, model.text.length()));
            int end = Math.max(0, rest.lastIndexOf(';'));
            due("erase()", x.erase(), model.erase());
            for (int n = 0; n < end && calls < CALLS; n++) {
                due("write", x.write(rest.charAt(n)), model.write(rest.charAt(n)));
            }
            due("town()", x.town(), model.town());
        }
    }

    private void spoil(StringBuilder text) {
        String letters = "azAZ09;;  \u00e4\tplain12";
        int place = dice.nextInt(text.length());
        char letter = letters.charAt(dice.nextInt(letters.length()));
        switch (dice.nextInt(3)) {
            case 0: text.setCharAt(place, letter); break;
            case 1: text.insert(place, letter); break;
            default: text.deleteCharAt(place); break;
        }
    }

    private void call() {
        int b = small(Math.max(1, model.barbers));
        int c = small(Math.max(1, model.barbers));
        int p = small(Math.max(1, model.world.people.size()));
        int r = small(Math.max(1, model.rumours.size()));
        int k = small(6);
        switch (dice.nextInt(34)) {
            case 0: due("person", x.person(p, k), model.person(p, k)); break;
            case 1: due("beard", x.beard(p, k), model.beard(p, k)); break;
            case 2: due("rumour", x.rumour(r), model.rumour(r)); break;
            case 3: due("knows", x.knows(b, p, c), model.knows(b, p, c)); break;
            case 4: due("as", x.as(p, k), model.as(p, k)); break;
            case 5: case 6: case 7: case 8: case 9: case 10:
                due("shave(" + b + ", " + p + ", " + k + ")", x.shave(b, p, k), model.shave(b, p, k)); break;
            case 11: case 12: due("day()", x.day(), model.day()); break;
            case 13: case 14: due("talk(" + b + ", " + c + ", " + p + ")", x.talk(b, c, p), model.talk(b, c, p)); break;
            case 15: due("burn(" + b + ", " + p + ")", x.burn(b, p), model.burn(b, p)); break;
            case 16: case 17: due("undo()", x.undo(), model.undo()); break;
            case 18: due("keep", x.keep(k & 1), model.keep(k & 1)); break;
            case 19: due("back(" + k + ")", x.back(k), model.back(k)); break;
            case 20: case 21: smooth(b, p); break;
            case 22: case 23: due("next(" + b + ", " + p + ")", x.next(b, p), model.next(b, p)); break;
            case 24: case 25: due("meet(" + p + ", " + r + ")", x.meet(p, r), model.meet(p, r)); break;
            case 26: case 27: due("round(" + p + ", " + k + ", " + b + ")", x.round(p, k, b), model.round(p, k, b)); break;
            case 28: seen(k); break;
            case 29: due("was()", x.was(), model.was()); break;
            case 30: forgetSometimes(); break;
            case 31: case 32: stays(b, p); break;
            default: count(); break;
        }
    }

    private void smooth(int b, int p) {
        int m = 1 + small(Math.max(1, model.rumours.size()));
        due("smooth(" + b + ", " + p + ", " + m + ")", x.smooth(b, p, m), model.smooth(b, p, m));
    }

    private void seen(int k) {
        int beard = small(10);
        int part = small(2) - (dice.nextInt(4) == 0 ? 1 : 0);
        due("seen(" + k + ", " + beard + ", " + part + ")", x.seen(k, beard, part), model.seen(k, beard, part));
    }

    private void forgetSometimes() {
        if (dice.nextInt(4) == 0) due("forget()", x.forget(), model.forget());
    }

    private void stays(int b, int p) {
        int q = small(11);
        int part = small(2);
        due("stays(" + b + ", " + p + ", " + q + ", " + part + ")", x.stays(b, p, q, part), model.stays(b, p, q, part));
    }

    private void count() {
        int what = small(9);
        due("count(" + what + ")", x.count(what), model.count(what));
    }

    /** All that can be asked, behind the last call. */
    private void compareAll() {
        for (int what = 0; what <= 8; what++) Check.due("count at the end", x.count(what), model.count(what));
        for (int p = 0; p < model.world.people.size(); p++) {
            for (int what = 0; what < 4; what++) Check.due("person at the end", x.person(p, what), model.person(p, what));
            for (int k = 0; k < 6; k++) Check.due("beard at the end", x.beard(p, k), model.beard(p, k));
            for (int b = 0; b < model.barbers; b++) {
                for (int what = 0; what < 3; what++) {
                    Check.due("knows at the end", x.knows(b, p, what), model.knows(b, p, what));
                }
            }
        }
        for (int r = 0; r < model.rumours.size(); r++) Check.due("rumour at the end", x.rumour(r), model.rumour(r));
        Check.due("was at the end", x.was(), model.was());
    }
}
