import java.lang.reflect.Constructor;
import java.lang.reflect.Field;
import java.lang.reflect.Method;
import java.lang.reflect.Modifier;
import java.nio.file.Files;
import java.nio.file.Path;
import java.util.Set;
import java.util.TreeSet;

/** What a test can see of ../shared/LANGUAGE.md, and that no call throws. */
final class LanguageTests {
    private static final String[] FACE = {
        "as(int,int)", "back(int)", "beard(int,int)", "burn(int,int)", "count(int)", "day()", "erase()", "fault()",
        "forget()", "keep(int)", "knows(int,int,int)", "meet(int,int)", "next(int,int)", "person(int,int)",
        "round(int,int,int)", "rumour(int)", "seen(int,int,int)", "shave(int,int,int)", "smooth(int,int,int)",
        "stays(int,int,int,int)", "talk(int,int,int)", "town()", "undo()", "was()", "write(int)"};
    private static final String[] FORBIDDEN = {
        "import", "package", "throw", "throws", "try", "catch", "finally", "synchronized", "assert", "->", "::",
        "static {", "Exception", "equals(", "hashCode(", "toString(", "Exact("};
    private static final int[] NUMBERS = {Integer.MIN_VALUE, -64, -5, -2, -1, 0, 1, 2, 3, 5, 6, 9, 31, 32, 64, 256,
        Integer.MAX_VALUE};

    private LanguageTests() {
    }

    static void run() throws Exception {
        face();
        constants();
        ownNames();
        source();
        anyArguments();
    }

    private static String signature(Method method) {
        StringBuilder text = new StringBuilder(method.getName()).append('(');
        for (Class<?> type : method.getParameterTypes()) {
            if (text.charAt(text.length() - 1) != '(') text.append(',');
            text.append(type);
        }
        return text.append(')').toString();
    }

    private static void face() {
        Check.begin("LANGUAGE.md 1, the face");
        Set<String> open = new TreeSet<>();
        for (Method method : RazorTalk.class.getDeclaredMethods()) {
            if (Modifier.isPrivate(method.getModifiers()) || method.isSynthetic()) continue;
            open.add(signature(method));
            Check.holds(method + " is public", Modifier.isPublic(method.getModifiers()));
            Check.holds(method + " answers an int", method.getReturnType() == int.class);
            Check.holds(method + " is of an object", !Modifier.isStatic(method.getModifiers()));
        }
        Check.holds("the methods are those of the document: " + open, open.equals(new TreeSet<>(Set.of(FACE))));
        Constructor<?>[] constructors = RazorTalk.class.getDeclaredConstructors();
        Check.due("constructors", constructors.length, 1);
        Check.holds("it is public", Modifier.isPublic(constructors[0].getModifiers()));
        Check.due("its arguments", constructors[0].getParameterCount(), 0);
        Check.holds("the class is public", Modifier.isPublic(RazorTalk.class.getModifiers()));
        Check.holds("the class is final", Modifier.isFinal(RazorTalk.class.getModifiers()));
    }

    private static void constants() {
        Check.begin("LANGUAGE.md 1, the constants");
        Set<String> open = new TreeSet<>();
        for (Field field : RazorTalk.class.getDeclaredFields()) {
            boolean isStatic = Modifier.isStatic(field.getModifiers());
            Check.holds(field + " is final, if static", !isStatic || Modifier.isFinal(field.getModifiers()));
            if (!Modifier.isPrivate(field.getModifiers()) && !field.isSynthetic()) open.add(field.getName());
        }
        Check.holds("they are those of the document: " + open,
                open.equals(new TreeSet<>(Set.of("NONE", "UNKNOWN", "OUTSIDE", "NOT", "FULL"))));
        Check.due("NONE", RazorTalk.NONE, -1);
        Check.due("UNKNOWN", RazorTalk.UNKNOWN, -2);
        Check.due("OUTSIDE", RazorTalk.OUTSIDE, -3);
        Check.due("NOT", RazorTalk.NOT, -4);
        Check.due("FULL", RazorTalk.FULL, -5);
    }

    private static void ownNames() {
        Check.begin("LANGUAGE.md 1, 2, 11, own classes");
        Set<String> names = new TreeSet<>();
        for (String signature : FACE) names.add(signature.substring(0, signature.indexOf('(')));
        for (Method method : RazorTalk.class.getDeclaredMethods()) {
            if (Modifier.isPrivate(method.getModifiers())) {
                Check.holds(method + " has a name of its own", !names.contains(method.getName()));
            }
        }
        Check.holds("a dozen classes at most", RazorTalk.class.getDeclaredClasses().length < 12);
        for (Class<?> own : RazorTalk.class.getDeclaredClasses()) {
            Check.holds(own + " is static", Modifier.isStatic(own.getModifiers()));
            for (Method method : own.getDeclaredMethods()) {
                Check.holds(method + " has a name of its own", !names.contains(method.getName()));
                Check.holds(method + " has at most seven parameters", method.getParameterCount() <= 7);
            }
        }
    }

    private static void source() throws Exception {
        Check.begin("LANGUAGE.md 4, 6, the source");
        String text = Files.readString(Path.of("src/main/java/RazorTalk.java"));
        String code = text.replaceAll("(?s)/\\*.*?\\*/", "").replaceAll("//[^\n]*", "");
        for (String word : FORBIDDEN) {
            boolean isWord = word.matches("[A-Za-z]+");
            boolean found = isWord ? code.matches("(?s).*\\b" + word + "\\b.*") : code.contains(word);
            Check.holds("no " + word, !found);
        }
        for (int n = 0; n < text.length(); n++) {
            if (text.charAt(n) > 126) Check.holds("a sign of 1 to 126 at " + n, false);
        }
    }

    private static Object fresh(int number) {
        switch (number) {
            case 0: return new RazorTalk();
            case 1: return Check.told("town 4;plain 63;bailed 1;reserved 2;nicked 3;plain 4;plain 5;rumour 1");
            default: return Check.told("town 1;rumour 0;rumour 1");
        }
    }

    /** Each method with each choice of NUMBERS: a call that throws ends the test. */
    private static void anyArguments() throws Exception {
        Check.begin("LANGUAGE.md 7, any arguments");
        for (int town = 0; town < 3; town++) {
            for (Method method : RazorTalk.class.getDeclaredMethods()) {
                if (!Modifier.isPublic(method.getModifiers())) continue;
                Object x = fresh(town);
                int count = method.getParameterCount();
                int choices = 1;
                for (int n = 0; n < count; n++) choices *= NUMBERS.length;
                for (int choice = 0; choice < choices; choice++) {
                    Object[] arguments = new Object[count];
                    int rest = choice;
                    for (int n = 0; n < count; n++) {
                        arguments[n] = NUMBERS[rest % NUMBERS.length];
                        rest /= NUMBERS.length;
                    }
                    Check.holds(method + " answers", (Integer) method.invoke(x, arguments) >= -5);
                }
            }
        }
    }
}
