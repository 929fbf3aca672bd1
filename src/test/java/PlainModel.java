import java.math.BigInteger;
import java.util.ArrayList;
import java.util.List;
import java.util.regex.Matcher;
import java.util.regex.Pattern;

/** The document once more, written otherwise: PEOPLE as objects, copies of all for undo, sets tried by doing. */
final class PlainModel {
    static final class Person {
        String kind;
        int secret;
        int[] told = new int[6];
        int[] beards = new int[6];

        Person copy() {
            Person other = new Person();
            other.kind = kind;
            other.secret = secret;
            other.told = told.clone();
            other.beards = beards.clone();
            return other;
        }

        /** "0", "1" or "" for nothing. */
        String tells(int strip, int beard) {
            boolean part = (secret & (1 << strip)) != 0;
            if (kind.equals("bailed") && beard <= 2) return "";
            if (kind.equals("reserved") && strip == 2) return "";
            if (kind.equals("nicked") && beard > 4) part = !part;
            return part ? "1" : "0";
        }
    }

    static final class World {
        int day = 0;
        List<Person> people = new ArrayList<>();
        /** By barber, person and strip: "0", "1" or "". */
        String[][][] known = new String[4][6][6];

        World() {
            for (String[][] barber : known) for (String[] person : barber) java.util.Arrays.fill(person, "");
        }

        World copy() {
            World other = new World();
            other.day = day;
            for (Person person : people) other.people.add(person.copy());
            for (int b = 0; b < 4; b++) for (int p = 0; p < 6; p++) other.known[b][p] = known[b][p].clone();
            return other;
        }

        void shave(int b, int p, int k) {
            String told = people.get(p).tells(k, people.get(p).beards[k]);
            if (!told.isEmpty()) known[b][p][k] = told;
            people.get(p).beards[k] = 0;
        }
    }

    private static final Pattern TOKEN = Pattern.compile("[a-z]+|[0-9]+|[^ ]", Pattern.DOTALL);
    private static final List<String> KINDS = List.of("plain", "bailed", "reserved", "nicked");

    StringBuilder text = new StringBuilder();
    int barbers = 2;
    List<Integer> rumours = new ArrayList<>();
    World world = new World();
    List<World> past = new ArrayList<>();
    World[] kept = new World[2];
    List<int[]> seen = new ArrayList<>();

    int write(int letter) {
        if (letter < 0 || letter > 255) return -3;
        if (text.length() == 160) return -5;
        text.append((char) letter);
        return text.length();
    }

    int erase() {
        int had = text.length();
        text.setLength(0);
        return had;
    }

    private static boolean isNumber(String token, int least, int most) {
        if (!token.matches("[0-9]{1,2}")) return false;
        int number = Integer.parseInt(token);
        return least <= number && number <= most;
    }

    /** The texts of tokens, "" at the end, and their places. */
    private void tokens(List<String> texts, List<Integer> places) {
        Matcher m = TOKEN.matcher(text);
        while (m.find()) {
            texts.add(m.group());
            places.add(m.start());
        }
        texts.add("");
        places.add(text.length());
    }

    int fault() {
        List<String> texts = new ArrayList<>();
        List<Integer> places = new ArrayList<>();
        tokens(texts, places);
        int n = 0;
        int people = world.people.size();
        int told = rumours.size();
        for (int clause = 1; ; clause++) {
            String word = texts.get(n);
            List<int[]> bounds = new ArrayList<>();
            if (word.equals("town")) {
                bounds.add(new int[] {1, 4});
                people = 0;
                told = 0;
            } else if (KINDS.contains(word) && people < 6) {
                bounds.add(new int[] {0, 63});
                people++;
            } else if (word.equals("rumour") && told < 8) {
                bounds.add(new int[] {0, 63});
                told++;
            } else if (word.equals("beard")) {
                bounds.add(new int[] {0, people - 1});
                bounds.add(new int[] {0, 5});
                bounds.add(new int[] {0, 9});
            } else {
                return places.get(n);
            }
            n++;
            for (int[] bound : bounds) {
                if (!isNumber(texts.get(n), bound[0], bound[1])) return places.get(n);
                n++;
            }
            if (texts.get(n).isEmpty()) return -1;
            if (!texts.get(n).equals(";") || clause == 14) return places.get(n);
            n++;
        }
    }

    int town() {
        if (fault() != -1) return -4;
        String[] clauses = text.toString().split(";");
        for (String clause : clauses) {
            String word = clause.replaceAll("[^a-z]", "");
            String[] number = clause.replaceAll("[a-z]", " ").trim().split(" +");
            int first = Integer.parseInt(number[0]);
            if (word.equals("town")) {
                barbers = first;
                world.people.clear();
                rumours.clear();
            } else if (word.equals("rumour")) {
                rumours.add(first);
            } else if (word.equals("beard")) {
                world.people.get(first).told[Integer.parseInt(number[1])] = Integer.parseInt(number[2]);
            } else {
                Person person = new Person();
                person.kind = word;
                person.secret = first;
                world.people.add(person);
            }
        }
        World fresh = new World();
        for (Person person : world.people) {
            Person one = person.copy();
            one.beards = one.told.clone();
            fresh.people.add(one);
        }
        world = fresh;
        past.clear();
        kept = new World[2];
        seen.clear();
        text.setLength(0);
        return clauses.length;
    }

    private boolean noPerson(int p) {
        return p < 0 || p >= world.people.size();
    }

    private boolean noBarber(int b) {
        return b < 0 || b >= barbers;
    }

    private static boolean noStrip(int k) {
        return k < 0 || k > 5;
    }

    int person(int p, int what) {
        if (noPerson(p)) return -2;
        if (what < 0 || what > 3) return -3;
        Person one = world.people.get(p);
        int bare = 0;
        int sum = 0;
        for (int k = 5; k >= 0; k--) {
            bare = bare * 2 + (one.beards[k] == 0 ? 1 : 0);
            sum += one.beards[k];
        }
        return new int[] {KINDS.indexOf(one.kind), one.secret, bare, sum}[what];
    }

    int beard(int p, int k) {
        return noPerson(p) || noStrip(k) ? -2 : world.people.get(p).beards[k];
    }

    int rumour(int r) {
        return r < 0 || r >= rumours.size() ? -2 : rumours.get(r);
    }

    private static boolean fits(int rumour, String[] known) {
        for (int k = 0; k < 6; k++) {
            String part = (rumour / (1 << k)) % 2 == 1 ? "1" : "0";
            if (!known[k].isEmpty() && !known[k].equals(part)) return false;
        }
        return true;
    }

    private List<Integer> fitting(String[] known) {
        List<Integer> all = new ArrayList<>();
        for (int r = 0; r < rumours.size(); r++) if (fits(rumours.get(r), known)) all.add(r);
        return all;
    }

    private static int bits(List<Integer> places) {
        int sum = 0;
        for (int place : places) sum += 1 << place;
        return sum;
    }

    private static int strips(String[] known, String as) {
        int sum = 0;
        for (int k = 0; k < 6; k++) if (!known[k].isEmpty() && known[k].startsWith(as)) sum += 1 << k;
        return sum;
    }

    int knows(int b, int p, int what) {
        if (noBarber(b) || noPerson(p)) return -2;
        String[] known = world.known[b][p];
        if (what == 0) return strips(known, "");
        if (what == 1) return strips(known, "1");
        return what == 2 ? bits(fitting(known)) : -3;
    }

    private static int told(String told) {
        return told.isEmpty() ? -1 : Integer.parseInt(told);
    }

    int as(int p, int kind) {
        if (noPerson(p)) return -2;
        if (kind < 0 || kind > 4) return -3;
        Person one = world.people.get(p);
        List<List<String>> who = List.of(KINDS, List.of("plain", "bailed", "reserved"),
                List.of("bailed"), List.of("reserved"), List.of("nicked"));
        if (!who.get(kind).contains(one.kind)) return -4;
        return told(one.tells(2, one.beards[2]));
    }

    private void remember() {
        past.add(world.copy());
        if (past.size() > 8) past.remove(0);
    }

    int shave(int b, int p, int k) {
        if (noBarber(b) || noPerson(p) || noStrip(k)) return -2;
        remember();
        int told = told(world.people.get(p).tells(k, world.people.get(p).beards[k]));
        world.shave(b, p, k);
        return told;
    }

    int day() {
        if (world.day == 999) return -5;
        remember();
        world.day++;
        for (Person one : world.people) for (int k = 0; k < 6; k++) if (one.beards[k] < 9) one.beards[k]++;
        return world.day;
    }

    int talk(int b, int other, int p) {
        if (noBarber(b) || noBarber(other) || b == other || noPerson(p)) return -2;
        remember();
        for (int k = 0; k < 6; k++) {
            if (!world.known[b][p][k].isEmpty()) world.known[other][p][k] = world.known[b][p][k];
        }
        return strips(world.known[other][p], "");
    }

    int burn(int b, int p) {
        if (noBarber(b) || noPerson(p)) return -2;
        int knew = Integer.bitCount(strips(world.known[b][p], ""));
        if (knew == 0) return -4;
        remember();
        java.util.Arrays.fill(world.known[b][p], "");
        return knew;
    }

    int undo() {
        if (past.isEmpty()) return -4;
        world = past.remove(past.size() - 1);
        return past.size();
    }

    int keep(int k) {
        if (k != 0 && k != 1) return -2;
        kept[k] = world.copy();
        return world.day;
    }

    int back(int k) {
        if (k != 0 && k != 1) return -2;
        if (kept[k] == null) return -4;
        world = kept[k].copy();
        past.clear();
        return world.day;
    }

    private int fitBehind(int b, int p, List<Integer> strips) {
        World then = world.copy();
        for (int k : strips) then.shave(b, p, k);
        return fitting(then.known[b][p]).size();
    }

    private static List<Integer> places(int set) {
        List<Integer> all = new ArrayList<>();
        for (int n = 0; n < 6; n++) if ((set & (1 << n)) != 0) all.add(n);
        return all;
    }

    int smooth(int b, int p, int m) {
        if (noBarber(b) || noPerson(p)) return -2;
        if (m < 1 || m > 8) return -3;
        for (int size = 6; size >= 0; size--) {
            for (int set = 0; set < 64; set++) {
                if (places(set).size() == size && fitBehind(b, p, places(set)) >= m) return set;
            }
        }
        return -1;
    }

    int next(int b, int p) {
        if (noBarber(b) || noPerson(p)) return -2;
        String[] known = world.known[b][p];
        List<Integer> fit = fitting(known);
        if (fit.isEmpty()) return -1;
        for (int most = 1; most <= 8; most++) {
            for (int k = 0; k < 6; k++) {
                if (!known[k].isEmpty()) continue;
                String[] zero = known.clone();
                String[] one = known.clone();
                zero[k] = "0";
                one[k] = "1";
                if (Math.max(fitting(zero).size(), fitting(one).size()) == most) return k;
            }
        }
        return -1;
    }

    int meet(int p, int r) {
        if (noPerson(p) || r < 0 || r >= rumours.size()) return -2;
        for (int size = 0; size <= barbers; size++) {
            for (int set = 0; set < 1 << barbers; set++) {
                if (places(set).size() != size) continue;
                String[] known = {"", "", "", "", "", ""};
                List<Integer> who = places(set);
                java.util.Collections.reverse(who);
                for (int b : who) {
                    for (int k = 0; k < 6; k++) if (!world.known[b][p][k].isEmpty()) known[k] = world.known[b][p][k];
                }
                if (fitting(known).equals(List.of(r))) return set;
            }
        }
        return -1;
    }

    int round(int p, int i, int j) {
        if (noPerson(p) || noBarber(j)) return -2;
        if (i < 0 || i > 5) return -3;
        World then = world.copy();
        for (int k = 0; k < 6; k++) then.shave((k + i) % barbers, p, k);
        return fitting(then.known[j][p]).size();
    }

    int seen(int strip, int beard, int part) {
        if (noStrip(strip)) return -2;
        if (beard < 0 || beard > 9 || part < -1 || part > 1) return -3;
        if (seen.size() == 6) return -5;
        seen.add(new int[] {strip, beard, part});
        return seen.size();
    }

    int forget() {
        int had = seen.size();
        seen.clear();
        return had;
    }

    int was() {
        int sum = 0;
        for (int p = 0; p < world.people.size(); p++) {
            boolean all = true;
            for (int[] one : seen) all &= told(world.people.get(p).tells(one[0], one[1])) == one[2];
            if (all) sum += 1 << p;
        }
        return sum;
    }

    int stays(int b, int p, int q, int part) {
        if (noBarber(b) || noPerson(p)) return -2;
        if (q < 0 || q > 10 || part < 0 || part > 1) return -3;
        BigInteger above = BigInteger.ZERO;
        for (int set = 0; set < 64; set++) {
            if (fitBehind(b, p, places(set)) < 2) continue;
            BigInteger odds = BigInteger.ONE;
            for (int k = 0; k < 6; k++) odds = odds.multiply(BigInteger.valueOf((set & (1 << k)) != 0 ? q : 10 - q));
            above = above.add(odds);
        }
        BigInteger below = BigInteger.TEN.pow(6);
        BigInteger common = above.gcd(below);
        return (part == 0 ? above : below).divide(common).intValue();
    }

    int count(int what) {
        int beards = 0;
        int known = 0;
        for (int p = 0; p < world.people.size(); p++) {
            beards += person(p, 3);
            for (int b = 0; b < barbers; b++) known += Integer.bitCount(knows(b, p, 0));
        }
        int[] all = {barbers, world.people.size(), rumours.size(), world.day, beards, known,
            seen.size(), past.size(), text.length()};
        return what < 0 || what >= all.length ? -3 : all[what];
    }
}
