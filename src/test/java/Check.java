/** Compares answers with those that are due, and counts. */
final class Check {
    private static int right = 0;
    private static int wrong = 0;
    private static String test = "";

    private Check() {
    }

    static void begin(String name) {
        test = name;
    }

    static void due(String call, long got, long want) {
        if (got == want) {
            right++;
        } else {
            wrong++;
            System.out.println(test + ": " + call + " answered " + got + ", due is " + want);
        }
    }

    static void holds(String what, boolean so) {
        due(what, so ? 1 : 0, 1);
    }

    static int right() {
        return right;
    }

    static int wrong() {
        return wrong;
    }

    static void write(RazorTalk x, String text) {
        for (int n = 0; n < text.length(); n++) x.write(text.charAt(n));
    }

    /** A new object to which a text without a FAULT was told. */
    static RazorTalk told(String text) {
        RazorTalk x = new RazorTalk();
        tell(x, text);
        return x;
    }

    static void tell(RazorTalk x, String text) {
        write(x, text);
        due("fault() of " + text, x.fault(), RazorTalk.NONE);
        due("town() of " + text, x.town(), text.split(";").length);
    }

    /** What can be asked of an object without changing it, in one row. */
    static String picture(RazorTalk x) {
        StringBuilder all = new StringBuilder();
        for (int what = 0; what <= 8; what++) all.append(x.count(what)).append(' ');
        for (int person = 0; person < x.count(1); person++) {
            all.append("| ");
            for (int what = 0; what < 4; what++) all.append(x.person(person, what)).append(' ');
            for (int strip = 0; strip < 6; strip++) all.append(x.beard(person, strip)).append(' ');
            for (int barber = 0; barber < x.count(0); barber++) {
                for (int what = 0; what < 3; what++) all.append(x.knows(barber, person, what)).append(' ');
            }
        }
        all.append("| ");
        for (int rumour = 0; rumour < x.count(2); rumour++) all.append(x.rumour(rumour)).append(' ');
        return all.append(x.was()).toString();
    }
}
