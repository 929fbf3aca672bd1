import java.io.IOException;
import java.nio.file.Files;
import java.nio.file.Path;
import java.util.List;
import java.util.function.Supplier;
import java.util.function.ToIntFunction;

/** Boundary cases: each test names its promise and quotes the words of the document that name the case. */
final class Edge {
    private static final Path DOCUMENT = Path.of("../shared/DOC.md");
    private static final int PROMISES = 26;
    private static final int[] TESTS = new int[PROMISES + 1];
    private static final List<ToIntFunction<RazorTalk>> NO_CALL = List.of();

    /** No number of anybody and anything in busy(), nor within the bounds of another number. */
    static final int[] NOBODY = {-1, 6, 8, 32, 64, Integer.MIN_VALUE, Integer.MAX_VALUE};

    private static String document = null;

    private Edge() {
    }

    static void of(int promise, String words) {
        Check.begin("promise " + promise + ", \"" + words + "\"");
        Check.holds("the document says so", document().contains(words));
        TESTS[promise]++;
    }

    static void everyPromiseHasSome() {
        Check.begin("boundary cases");
        for (int promise = 1; promise <= PROMISES; promise++) {
            Check.holds("promise " + promise + " has tests of them", TESTS[promise] > 0);
        }
    }

    private static String document() {
        if (document == null) {
            try {
                document = Files.readString(DOCUMENT).replaceAll("\\s+", " ");
            } catch (IOException missing) {
                document = "";
            }
        }
        return document;
    }

    /** Three barbers, two people, three rumours; things are known, seen, kept, written and can be undone. */
    static RazorTalk busy() {
        RazorTalk x = Check.told("town 3;nicked 21;bailed 3;rumour 21;rumour 20;rumour 3;beard 0 0 7;beard 1 1 3");
        x.keep(0);
        x.day();
        x.keep(1);
        x.shave(0, 0, 1);
        x.shave(1, 1, 1);
        x.talk(0, 2, 0);
        x.seen(0, 5, 1);
        x.seen(2, 0, RazorTalk.NONE);
        Check.write(x, "plain 5");
        return x;
    }

    /** In busy(): the call is refused, and nothing changes. */
    static void refused(String call, int want, ToIntFunction<RazorTalk> asked) {
        refused(Edge::busy, call, want, asked);
    }

    static void refused(Supplier<RazorTalk> made, String call, int want, ToIntFunction<RazorTalk> asked) {
        Check.due(call, asked.applyAsInt(made.get()), want);
        unchanged(made, call, asked);
    }

    /** In busy(): nothing changes by the call, whatever it answers. */
    static void unchanged(String call, ToIntFunction<RazorTalk> asked) {
        unchanged(Edge::busy, call, asked);
    }

    private static void unchanged(Supplier<RazorTalk> made, String call, ToIntFunction<RazorTalk> asked) {
        for (int way = 0; way < WAYS; way++) {
            String without = story(made, NO_CALL, way);
            Check.holds(call + " changes nothing, by way " + way, without.equals(story(made, List.of(asked), way)));
        }
    }

    // Each way goes on from the same town, so that none has more than 512 calls on an object.
    private static final int WAYS = 4;

    private static String story(Supplier<RazorTalk> made, List<ToIntFunction<RazorTalk>> calls, int way) {
        RazorTalk x = made.get();
        for (ToIntFunction<RazorTalk> call : calls) call.applyAsInt(x);
        switch (way) {
            case 0: return Check.picture(x) + x.fault() + x.town() + Check.picture(x);
            case 1: return allUndone(x);
            case 2: return x.back(0) + Check.picture(x) + x.back(1) + Check.picture(x);
            default: return allSeen(x);
        }
    }

    private static String allUndone(RazorTalk x) {
        StringBuilder story = new StringBuilder();
        int left = 0;
        for (int n = 0; n <= 8 && left != RazorTalk.NOT; n++) {
            left = x.undo();
            story.append(left).append(": ").append(n < 5 ? Check.picture(x) : "").append('\n');
        }
        return story.toString();
    }

    private static String allSeen(RazorTalk x) {
        StringBuilder story = new StringBuilder();
        for (int n = 0; n < 7; n++) story.append(x.was()).append(' ').append(x.seen(1, 5, 1)).append('\n');
        return story.append(x.forget()).append(x.was()).append(x.erase()).toString();
    }
}
