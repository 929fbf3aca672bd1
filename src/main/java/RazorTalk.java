/** What the barber knows: a town, its people, and what was confessed to the razor there. */
public final class RazorTalk {
    public static final int NONE = -1, UNKNOWN = -2, OUTSIDE = -3, NOT = -4, FULL = -5;

    private static final int STRIPS = 6;
    private static final int MOUSTACHE = 2;
    private static final int STRIP_SETS = 64;
    private static final int MOST_PEOPLE = 6;
    private static final int MOST_BARBERS = 4;
    private static final int FIRST_BARBERS = 2;
    private static final int MOST_RUMOURS = 8;
    private static final int MOST_SECRET = 63;
    private static final int MOST_BEARD = 9;
    private static final int BAIL_BEARD = 3;
    private static final int NICK_BEARD = 5;
    private static final int LAST_DAY = 999;
    private static final int MOST_LETTER = 255;
    private static final int MOST_LETTERS = 160;
    private static final int MOST_CLAUSES = 14;
    private static final int MOST_DIGITS = 2;
    private static final int MOST_NUMBERS = 3;
    private static final int MOST_UNDONE = 8;
    private static final int MOST_KEPT = 2;
    private static final int MOST_SEEN = 6;
    private static final int TENTHS = 10;
    private static final int MOST_DIVISIONS = 64;

    private static final int PLAIN = 0, BAILED = 1, RESERVED = 2, NICKED = 3;
    private static final int AS_PERSON = 0, AS_PLAIN = 1, AS_NICKED = 4;

    // The words of CLAUSES: 0 .. 3 are the KINDS, so that a word tells the KIND at once.
    private static final int TOWN_WORD = 4, RUMOUR_WORD = 5, BEARD_WORD = 6, WORDS = 7;

    // The sorts of letters: an OTHER one is a TOKEN by itself.
    private static final int OTHER = 0, SMALL = 1, DIGIT = 2;

    private final Script script;
    private final Town town;
    private final Standing standing;
    private final Sightings sightings;
    private final Shelf past;
    private final Shelf kept;
    private int latest;
    private int undoable;
    private int keptPlaces;

    public RazorTalk() {
        script = new Script();
        town = new Town();
        standing = new Standing();
        sightings = new Sightings();
        past = new Shelf(MOST_UNDONE);
        kept = new Shelf(MOST_KEPT);
        latest = 0;
        undoable = 0;
        keptPlaces = 0;
    }

    // ---- what is told

    public int write(int letter) {
        if (letter < 0 || letter > MOST_LETTER) return OUTSIDE;
        if (script.length >= MOST_LETTERS) return FULL;
        script.addLetter(letter);
        return script.length;
    }

    public int erase() {
        int had = script.length;
        script.empty();
        return had;
    }

    public int fault() {
        return script.readAll(town.people, town.rumours);
    }

    public int town() {
        if (script.readAll(town.people, town.rumours) != NONE) return NOT;
        int told = script.clauses;
        for (int clause = 0; clause < told; clause++) {
            town.hear(script.wordOf(clause), script.numberOf(clause, 0),
                    script.numberOf(clause, 1), script.numberOf(clause, 2));
        }
        script.empty();
        standing.startAfresh(town);
        sightings.clear();
        undoable = 0;
        keptPlaces = 0;
        return told;
    }

    public int person(int person, int what) {
        if (!isPerson(person)) return UNKNOWN;
        switch (what) {
            case 0: return town.kindOf(person);
            case 1: return town.secretOf(person);
            case 2: return standing.bareStrips(person);
            case 3: return standing.beardsOf(person);
            default: return OUTSIDE;
        }
    }

    public int beard(int person, int strip) {
        if (!isPerson(person) || !isStrip(strip)) return UNKNOWN;
        return standing.beardOn(person, strip);
    }

    public int rumour(int rumour) {
        if (!isRumour(rumour)) return UNKNOWN;
        return town.rumourNumber(rumour);
    }

    public int knows(int barber, int person, int what) {
        if (!isBarber(barber) || !isPerson(person)) return UNKNOWN;
        int known = standing.stripsKnown(barber, person);
        int parts = standing.partsKnown(barber, person);
        switch (what) {
            case 0: return known;
            case 1: return parts;
            case 2: return town.fitting(known, parts);
            default: return OUTSIDE;
        }
    }

    public int as(int person, int kind) {
        if (!isPerson(person)) return UNKNOWN;
        if (kind < AS_PERSON || kind > AS_NICKED) return OUTSIDE;
        if (!isSuch(town.kindOf(person), kind)) return NOT;
        return tellsNow(person, MOUSTACHE);
    }

    // ---- what is done

    public int shave(int barber, int person, int strip) {
        if (!isBarber(barber) || !isPerson(person) || !isStrip(strip)) return UNKNOWN;
        rememberForUndo();
        int told = tellsNow(person, strip);
        if (told != NONE) standing.learn(barber, person, 1 << strip, told << strip);
        standing.setBeard(person, strip, 0);
        return told;
    }

    public int day() {
        if (standing.date() >= LAST_DAY) return FULL;
        rememberForUndo();
        standing.passDay(town.people);
        return standing.date();
    }

    public int talk(int barber, int other, int person) {
        if (!isBarber(barber) || !isBarber(other) || barber == other || !isPerson(person)) return UNKNOWN;
        rememberForUndo();
        standing.learn(other, person,
                standing.stripsKnown(barber, person), standing.partsKnown(barber, person));
        return standing.stripsKnown(other, person);
    }

    public int burn(int barber, int person) {
        if (!isBarber(barber) || !isPerson(person)) return UNKNOWN;
        int knew = Integer.bitCount(standing.stripsKnown(barber, person));
        if (knew == 0) return NOT;
        rememberForUndo();
        standing.setKnown(barber, person, 0, 0);
        return knew;
    }

    public int undo() {
        if (undoable <= 0) return NOT;
        past.fetch(latest, standing);
        latest = latest == 0 ? MOST_UNDONE - 1 : latest - 1;
        undoable--;
        return undoable;
    }

    public int keep(int k) {
        if (k < 0 || k >= MOST_KEPT) return UNKNOWN;
        kept.store(k, standing);
        keptPlaces |= 1 << k;
        return standing.date();
    }

    public int back(int k) {
        if (k < 0 || k >= MOST_KEPT) return UNKNOWN;
        if (!has(keptPlaces, k)) return NOT;
        kept.fetch(k, standing);
        undoable = 0;
        return standing.date();
    }

    // ---- foretold

    public int smooth(int barber, int person, int m) {
        if (!isBarber(barber) || !isPerson(person)) return UNKNOWN;
        if (m < 1 || m > MOST_RUMOURS) return OUTSIDE;
        int telling = stripsTelling(person);
        int told = partsTold(person);
        int best = NONE;
        int most = -1;
        for (int set = 0; set < STRIP_SETS; set++) {
            int shaved = Integer.bitCount(set);
            if (shaved > most && fittingBehind(barber, person, set & telling, told) >= m) {
                best = set;
                most = shaved;
            }
        }
        return best;
    }

    public int next(int barber, int person) {
        if (!isBarber(barber) || !isPerson(person)) return UNKNOWN;
        int known = standing.stripsKnown(barber, person);
        int fitting = town.fitting(known, standing.partsKnown(barber, person));
        if (fitting == 0) return NONE;
        int best = NONE;
        int fewest = MOST_RUMOURS + 1;
        for (int strip = 0; strip < STRIPS; strip++) {
            int alike = town.mostAlike(fitting, strip);
            if (!has(known, strip) && alike < fewest) {
                best = strip;
                fewest = alike;
            }
        }
        return best;
    }

    public int meet(int person, int rumour) {
        if (!isPerson(person) || !isRumour(rumour)) return UNKNOWN;
        int best = NONE;
        int fewest = MOST_BARBERS + 1;
        for (int set = 0; set < 1 << town.barbers; set++) {
            int meeting = Integer.bitCount(set);
            if (meeting < fewest && fittingTogether(set, person) == 1 << rumour) {
                best = set;
                fewest = meeting;
            }
        }
        return best;
    }

    public int round(int person, int i, int j) {
        if (!isPerson(person) || !isBarber(j)) return UNKNOWN;
        if (i < 0 || i >= STRIPS) return OUTSIDE;
        int mine = 0;
        for (int strip = 0; strip < STRIPS; strip++) {
            if ((strip + i) % Math.max(1, town.barbers) == j) mine |= 1 << strip;
        }
        return fittingBehind(j, person, mine & stripsTelling(person), partsTold(person));
    }

    // ---- what was seen

    public int seen(int strip, int beard, int part) {
        if (!isStrip(strip)) return UNKNOWN;
        if (beard < 0 || beard > MOST_BEARD) return OUTSIDE;
        if (part != 0 && part != 1 && part != NONE) return OUTSIDE;
        if (sightings.number >= MOST_SEEN) return FULL;
        sightings.add(strip, beard, part);
        return sightings.number;
    }

    public int forget() {
        int had = sightings.number;
        sightings.clear();
        return had;
    }

    public int was() {
        int people = 0;
        for (int person = 0; person < town.people; person++) {
            if (sightings.allTrueOf(town, person)) people |= 1 << person;
        }
        return people;
    }

    public int stays(int barber, int person, int q, int part) {
        if (!isBarber(barber) || !isPerson(person)) return UNKNOWN;
        if (q < 0 || q > TENTHS || part < 0 || part > 1) return OUTSIDE;
        int telling = stripsTelling(person);
        int told = partsTold(person);
        int above = 0;
        for (int set = 0; set < STRIP_SETS; set++) {
            if (fittingBehind(barber, person, set & telling, told) >= 2) above += weight(set, q);
        }
        int below = power(TENTHS, STRIPS);
        int common = Math.max(1, commonDivisor(above, below));
        return part == 0 ? above / common : below / common;
    }

    public int count(int what) {
        switch (what) {
            case 0: return town.barbers;
            case 1: return town.people;
            case 2: return town.rumours;
            case 3: return standing.date();
            case 4: return allBeards();
            case 5: return allStripsKnown();
            case 6: return sightings.number;
            case 7: return undoable;
            case 8: return script.length;
            default: return OUTSIDE;
        }
    }

    // ---- who and what there is

    private boolean isPerson(int person) {
        return person >= 0 && person < town.people;
    }

    private boolean isBarber(int barber) {
        return barber >= 0 && barber < town.barbers;
    }

    private boolean isRumour(int rumour) {
        return rumour >= 0 && rumour < town.rumours;
    }

    private static boolean isStrip(int strip) {
        return strip >= 0 && strip < STRIPS;
    }

    private static boolean isSuch(int kind, int taken) {
        if (taken == AS_PERSON) return true;
        if (taken == AS_PLAIN) return kind != NICKED;
        return kind == taken - 1;
    }

    private int allBeards() {
        int all = 0;
        for (int person = 0; person < town.people; person++) all += standing.beardsOf(person);
        return all;
    }

    private int allStripsKnown() {
        int all = 0;
        for (int barber = 0; barber < town.barbers; barber++) {
            for (int person = 0; person < town.people; person++) {
                all += Integer.bitCount(standing.stripsKnown(barber, person));
            }
        }
        return all;
    }

    // ---- what is told at the razor

    private static int telling(int kind, int strip, int beard, int part) {
        switch (kind) {
            case BAILED: return beard < BAIL_BEARD ? NONE : part;
            case RESERVED: return strip == MOUSTACHE ? NONE : part;
            case NICKED: return beard < NICK_BEARD ? part : 1 - part;
            default: return part;
        }
    }

    private int tellsNow(int person, int strip) {
        return town.wouldTell(person, strip, standing.beardOn(person, strip));
    }

    private int stripsTelling(int person) {
        int strips = 0;
        for (int strip = 0; strip < STRIPS; strip++) {
            if (tellsNow(person, strip) != NONE) strips |= 1 << strip;
        }
        return strips;
    }

    private int partsTold(int person) {
        int parts = 0;
        for (int strip = 0; strip < STRIPS; strip++) {
            if (tellsNow(person, strip) == 1) parts |= 1 << strip;
        }
        return parts;
    }

    /** How many RUMOURS would FIT by what the BARBER knows, were these STRIPS told to him so. */
    private int fittingBehind(int barber, int person, int strips, int parts) {
        int known = standing.stripsKnown(barber, person) | strips;
        int ones = replaced(standing.partsKnown(barber, person), strips, parts);
        return Integer.bitCount(town.fitting(known, ones));
    }

    /** The RUMOURS that FIT, by bits, by what at least one of the BARBERS of a set knows. */
    private int fittingTogether(int set, int person) {
        int known = 0;
        int parts = 0;
        for (int barber = 0; barber < town.barbers; barber++) {
            if (has(set, barber)) {
                // Only what no lower one knew counts: the lowest who knows a STRIP is believed.
                int more = standing.stripsKnown(barber, person) & ~known;
                parts = replaced(parts, more, standing.partsKnown(barber, person));
                known |= more;
            }
        }
        return town.fitting(known, parts);
    }

    private void rememberForUndo() {
        latest = latest >= MOST_UNDONE - 1 ? 0 : latest + 1;
        past.store(latest, standing);
        undoable = Math.min(MOST_UNDONE, undoable + 1);
    }

    // ---- bits and odds

    private static boolean has(int bits, int place) {
        return (bits >> place & 1) == 1;
    }

    private static int replaced(int bits, int places, int by) {
        return bits & ~places | by & places;
    }

    /** How many of ten to the sixth cases are these: all of the set SHAVED, and no other STRIP. */
    private static int weight(int set, int q) {
        int shaved = Integer.bitCount(set);
        return power(q, shaved) * power(TENTHS - q, STRIPS - shaved);
    }

    private static int power(int base, int exponent) {
        int product = 1;
        for (int n = 0; n < exponent; n++) product *= base;
        return product;
    }

    private static int commonDivisor(int one, int other) {
        int greater = one;
        int lesser = other;
        for (int n = 0; n < MOST_DIVISIONS && lesser != 0; n++) {
            int rest = greater % lesser;
            greater = lesser;
            lesser = rest;
        }
        return greater;
    }

    /** A row of numbers whose places are looked at here, so that no other code need to. */
    private static final class Row {
        private final int[] cells;

        Row(int length) {
            cells = new int[Math.max(0, length)];
        }

        int at(int place) {
            return place >= 0 && place < cells.length ? cells[place] : 0;
        }

        void put(int place, int number) {
            if (place >= 0 && place < cells.length) cells[place] = number;
        }

        void zero() {
            for (int place = 0; place < cells.length; place++) cells[place] = 0;
        }

        void take(Row from, int start, int place, int length) {
            if (start < 0 || place < 0 || length < 0) return;
            if (start > from.cells.length - length || place > cells.length - length) return;
            System.arraycopy(from.cells, start, cells, place, length);
        }
    }

    /** THE TEXT, and its CLAUSES as they were read last. */
    private static final class Script {
        private final Row letters;
        private final Row words;
        private final Row numbers;
        int length;
        int clauses;
        private int people;
        private int rumours;
        private int begin;
        private int end;

        Script() {
            letters = new Row(MOST_LETTERS);
            words = new Row(MOST_CLAUSES);
            numbers = new Row(MOST_CLAUSES * MOST_NUMBERS);
        }

        void addLetter(int letter) {
            letters.put(length, letter);
            length = Math.min(MOST_LETTERS, length + 1);
        }

        void empty() {
            length = 0;
        }

        int wordOf(int clause) {
            return words.at(clause);
        }

        int numberOf(int clause, int which) {
            return numbers.at(clause * MOST_NUMBERS + which);
        }

        /** The FAULT of THE TEXT, if so many PEOPLE and RUMOURS were told ahead of it; NONE. */
        int readAll(int peopleAhead, int rumoursAhead) {
            people = peopleAhead;
            rumours = rumoursAhead;
            clauses = 0;
            end = 0;
            do {
                step();
                if (!readClause()) return begin;
                clauses++;
                step();
                if (begin >= length) return NONE;
            } while (clauses < MOST_CLAUSES && letters.at(begin) == ';');
            return begin;
        }

        private boolean readClause() {
            int word = wordHere();
            if (!canStand(word)) return false;
            words.put(clauses, word);
            countIn(word);
            switch (word) {
                case TOWN_WORD: return readNumber(0, 1, MOST_BARBERS);
                case BEARD_WORD: return readNumber(0, 0, people - 1)
                        && readNumber(1, 0, STRIPS - 1)
                        && readNumber(2, 0, MOST_BEARD);
                default: return readNumber(0, 0, MOST_SECRET);
            }
        }

        private boolean canStand(int word) {
            switch (word) {
                case NONE: return false;
                case TOWN_WORD: return true;
                case BEARD_WORD: return true;
                case RUMOUR_WORD: return rumours < MOST_RUMOURS;
                default: return people < MOST_PEOPLE;
            }
        }

        /** A CLAUSE counts for what stands behind it, though nothing is done yet. */
        private void countIn(int word) {
            switch (word) {
                case TOWN_WORD: people = 0; rumours = 0; break;
                case BEARD_WORD: break;
                case RUMOUR_WORD: rumours++; break;
                default: people++; break;
            }
        }

        private boolean readNumber(int which, int least, int most) {
            step();
            int number = numberHere();
            if (number < least || number > most) return false;
            numbers.put(clauses * MOST_NUMBERS + which, number);
            return true;
        }

        /** Goes on to the next TOKEN; at the end that is an empty one at the length. */
        private void step() {
            begin = end;
            while (begin < length && letters.at(begin) == ' ') begin++;
            end = Math.min(length, begin + 1);
            int sort = sortAt(begin);
            while (end < length && sort != OTHER && sortAt(end) == sort) end++;
        }

        private int sortAt(int place) {
            int letter = letters.at(place);
            if (letter >= 'a' && letter <= 'z') return SMALL;
            return letter >= '0' && letter <= '9' ? DIGIT : OTHER;
        }

        private int numberHere() {
            if (begin >= length || sortAt(begin) != DIGIT || end - begin > MOST_DIGITS) return NONE;
            int number = 0;
            for (int place = begin; place < end; place++) number = number * 10 + letters.at(place) - '0';
            return number;
        }

        private int wordHere() {
            for (int word = 0; word < WORDS; word++) {
                if (isHere(spelling(word))) return word;
            }
            return NONE;
        }

        private boolean isHere(String text) {
            if (end - begin != text.length()) return false;
            for (int n = 0; n < text.length(); n++) {
                if (letters.at(begin + n) != text.charAt(n)) return false;
            }
            return true;
        }

        private static String spelling(int word) {
            switch (word) {
                case PLAIN: return "plain";
                case BAILED: return "bailed";
                case RESERVED: return "reserved";
                case NICKED: return "nicked";
                case TOWN_WORD: return "town";
                case RUMOUR_WORD: return "rumour";
                default: return "beard";
            }
        }
    }

    /** What texts told: it stays until the next one. */
    private static final class Town {
        int barbers;
        int people;
        int rumours;
        private final Row kinds;
        private final Row secrets;
        private final Row beards;
        private final Row rumourNumbers;

        Town() {
            barbers = FIRST_BARBERS;
            kinds = new Row(MOST_PEOPLE);
            secrets = new Row(MOST_PEOPLE);
            beards = new Row(MOST_PEOPLE * STRIPS);
            rumourNumbers = new Row(MOST_RUMOURS);
        }

        void hear(int word, int first, int second, int third) {
            switch (word) {
                case TOWN_WORD: found(first); break;
                case RUMOUR_WORD: addRumour(first); break;
                case BEARD_WORD: beards.put(first * STRIPS + second, third); break;
                default: addPerson(word, first); break;
            }
        }

        private void found(int howMany) {
            barbers = Math.max(1, Math.min(MOST_BARBERS, howMany));
            people = 0;
            rumours = 0;
            beards.zero();
        }

        private void addPerson(int kind, int secret) {
            kinds.put(people, kind);
            secrets.put(people, secret);
            people = Math.min(MOST_PEOPLE, people + 1);
        }

        private void addRumour(int number) {
            rumourNumbers.put(rumours, number);
            rumours = Math.min(MOST_RUMOURS, rumours + 1);
        }

        int kindOf(int person) {
            return kinds.at(person);
        }

        int secretOf(int person) {
            return secrets.at(person);
        }

        int toldBeard(int person, int strip) {
            return beards.at(person * STRIPS + strip);
        }

        int rumourNumber(int rumour) {
            return rumourNumbers.at(rumour);
        }

        int wouldTell(int person, int strip, int beard) {
            return telling(kindOf(person), strip, beard, secretOf(person) >> strip & 1);
        }

        /** The RUMOURS, by bits, in which the known PARTS are as known. */
        int fitting(int known, int parts) {
            int bits = 0;
            for (int rumour = 0; rumour < rumours; rumour++) {
                if (((rumourNumber(rumour) ^ parts) & known) == 0) bits |= 1 << rumour;
            }
            return bits;
        }

        /** Of some RUMOURS, the greater of two numbers: those with 1, those with 0 at the STRIP. */
        int mostAlike(int some, int strip) {
            int ones = 0;
            for (int rumour = 0; rumour < rumours; rumour++) {
                if (has(some, rumour) && has(rumourNumber(rumour), strip)) ones++;
            }
            return Math.max(ones, Integer.bitCount(some) - ones);
        }
    }

    /** What days, razors and talk change: all in one row, so that it is kept by one copy. */
    private static final class Standing {
        static final int DATE = 0;
        static final int BEARDS = 1;
        static final int KNOWN = BEARDS + MOST_PEOPLE * STRIPS;
        static final int PARTS = KNOWN + MOST_BARBERS * MOST_PEOPLE;
        static final int SIZE = PARTS + MOST_BARBERS * MOST_PEOPLE;
        final Row cells;

        Standing() {
            cells = new Row(SIZE);
        }

        void startAfresh(Town town) {
            cells.zero();
            for (int person = 0; person < town.people; person++) {
                for (int strip = 0; strip < STRIPS; strip++) {
                    setBeard(person, strip, town.toldBeard(person, strip));
                }
            }
        }

        int date() {
            return cells.at(DATE);
        }

        void passDay(int people) {
            cells.put(DATE, date() + 1);
            for (int person = 0; person < people; person++) {
                for (int strip = 0; strip < STRIPS; strip++) {
                    setBeard(person, strip, Math.min(MOST_BEARD, beardOn(person, strip) + 1));
                }
            }
        }

        int beardOn(int person, int strip) {
            return cells.at(BEARDS + person * STRIPS + strip);
        }

        void setBeard(int person, int strip, int beard) {
            cells.put(BEARDS + person * STRIPS + strip, beard);
        }

        int beardsOf(int person) {
            int all = 0;
            for (int strip = 0; strip < STRIPS; strip++) all += beardOn(person, strip);
            return all;
        }

        int bareStrips(int person) {
            int bits = 0;
            for (int strip = 0; strip < STRIPS; strip++) {
                if (beardOn(person, strip) == 0) bits |= 1 << strip;
            }
            return bits;
        }

        int stripsKnown(int barber, int person) {
            return cells.at(KNOWN + barber * MOST_PEOPLE + person);
        }

        int partsKnown(int barber, int person) {
            return cells.at(PARTS + barber * MOST_PEOPLE + person);
        }

        void setKnown(int barber, int person, int strips, int parts) {
            cells.put(KNOWN + barber * MOST_PEOPLE + person, strips);
            cells.put(PARTS + barber * MOST_PEOPLE + person, parts);
        }

        void learn(int barber, int person, int strips, int parts) {
            setKnown(barber, person, stripsKnown(barber, person) | strips,
                    replaced(partsKnown(barber, person), strips, parts));
        }
    }

    /** Places for copies of a Standing, made once, so that no call makes one. */
    private static final class Shelf {
        private final Row cells;

        Shelf(int places) {
            cells = new Row(places * Standing.SIZE);
        }

        void store(int place, Standing standing) {
            cells.take(standing.cells, 0, place * Standing.SIZE, Standing.SIZE);
        }

        void fetch(int place, Standing standing) {
            standing.cells.take(cells, place * Standing.SIZE, 0, Standing.SIZE);
        }
    }

    /** What is SEEN of an unknown one. */
    private static final class Sightings {
        int number;
        private final Row strips;
        private final Row beards;
        private final Row parts;

        Sightings() {
            strips = new Row(MOST_SEEN);
            beards = new Row(MOST_SEEN);
            parts = new Row(MOST_SEEN);
        }

        void add(int strip, int beard, int part) {
            strips.put(number, strip);
            beards.put(number, beard);
            parts.put(number, part);
            number = Math.min(MOST_SEEN, number + 1);
        }

        void clear() {
            number = 0;
        }

        boolean allTrueOf(Town town, int person) {
            for (int n = 0; n < number; n++) {
                if (town.wouldTell(person, strips.at(n), beards.at(n)) != parts.at(n)) return false;
            }
            return true;
        }
    }
}
