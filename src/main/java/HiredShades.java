/**
 * A guild of shades, told as a text: people and those who can be taken for them, where and when
 * somebody was seen, whose body it can have been, and whom to hire for it.
 *
 * <p>All rows are made in the constructor and used again: no call makes an object.
 */
public final class HiredShades {
    public static final int NONE = -1;

    private static final int MOST_BYTES = 1600;
    private static final int MOST_SIGHTINGS = 24;
    private static final int MOST_HOUR = 99;
    private static final int NO_DAYS = -1000000000;

    private final Tape tape;
    private final GuildReader reader;
    private final Hires hires;
    private final Chains chains;
    private final Crews crews;
    private final int[] image;
    private int imageLength;
    private int drawn;
    private Guild now;
    private Guild spare;

    public HiredShades() {
        tape = new Tape();
        reader = new GuildReader(tape);
        hires = new Hires();
        chains = new Chains();
        crews = new Crews();
        image = new int[MOST_SIGHTINGS + 1];
        drawn = 1;
        now = new Guild();
        spare = new Guild();
    }

    // ---- the tape and the guild

    public int feed(int a, int b, int c, int d, int e) {
        if (tape.length + 20 > MOST_BYTES) {
            return NONE;
        }
        tape.append(a);
        tape.append(b);
        tape.append(c);
        tape.append(d);
        tape.append(e);
        return tape.length;
    }

    public boolean end(int n) {
        if (n < 0 || n > tape.length) {
            return false;
        }
        tape.length = n;
        return true;
    }

    public int guild() {
        boolean isRead = reader.read(spare);
        tape.length = 0;
        if (!isRead) {
            return NONE;
        }
        reader.settle();
        Guild old = now;
        now = spare;
        spare = old;
        hires.clear();
        return now.statements;
    }

    public int fault(int what) {
        if (what == 0) {
            return tape.fault;
        }
        return what == 1 ? tape.faultPlace : NONE;
    }

    public int has(int what) {
        if (what >= Guild.TRAITS && what <= Guild.RULES) {
            return now.counts[what];
        }
        switch (what) {
            case 6:
                return now.tithe;
            case 7:
                return Integer.bitCount(now.allSightings() & ~unhired());
            case 8:
                return hires.actCount;
            default:
                return NONE;
        }
    }

    public int letter(int kind, int which, int k) {
        if (kind < Guild.TRAITS || kind > Guild.PLACES || !now.isThere(kind, which) || k < 0 || k > 5) {
            return NONE;
        }
        return Tape.letterOf(now.names[kind][which], k);
    }

    public int trait(int trait, int who, int what) {
        if (!now.isThere(Guild.TRAITS, trait)) {
            return NONE;
        }
        switch (what) {
            case 0:
            case 1:
                return who == NONE ? now.shows[trait][what] : NONE;
            case 2:
                return now.isThere(Guild.PERSONS, who) ? now.looks[who][trait] : NONE;
            case 3:
                return now.isThere(Guild.SHADES, who) ? now.owns[who][trait] : NONE;
            case 4:
                return now.isThere(Guild.SHADES, who) ? now.fakes[who][trait] : NONE;
            default:
                return NONE;
        }
    }

    public int seen(int sighting, int what) {
        if (!isSighting(sighting)) {
            return NONE;
        }
        if (what >= Guild.PERSON && what <= Guild.RAIN) {
            return now.sightings[sighting][what];
        }
        return what == 5 ? hires.shadeOf[sighting] : NONE;
    }

    public int far(int first, int second) {
        if (!now.isThere(Guild.PLACES, first) || !now.isThere(Guild.PLACES, second)) {
            return NONE;
        }
        int hours = now.hours[first][second];
        return hours < Guild.UNREACHED ? hours : NONE;
    }

    // ---- passing

    public int pass(int shade, int sighting) {
        return isShade(shade) && isSighting(sighting) ? now.passes[shade][sighting] : NONE;
    }

    public int price(int shade, int sighting) {
        return isShade(shade) && isSighting(sighting) ? now.prices[shade][sighting] : NONE;
    }

    public int best(int sighting, boolean most, int least) {
        if (!isSighting(sighting)) {
            return NONE;
        }
        int found = NONE;
        for (int shade = 0; shade < now.counts[Guild.SHADES]; shade++) {
            if (!most && now.passes[shade][sighting] < least) {
                continue;
            }
            if (found == NONE || isBetter(shade, found, sighting, most)) {
                found = shade;
            }
        }
        return found;
    }

    private boolean isBetter(int shade, int than, int sighting, boolean most) {
        return most
                ? now.passes[shade][sighting] > now.passes[than][sighting]
                : now.prices[shade][sighting] < now.prices[than][sighting];
    }

    public int whose(int sighting, int shade) {
        if (!isSighting(sighting) || (shade != NONE && !isShade(shade))) {
            return NONE;
        }
        int all = weightOf(sighting, NONE);
        for (int other = 0; other < now.counts[Guild.SHADES]; other++) {
            all += weightOf(sighting, other);
        }
        return all == 0 ? 0 : 1000 * weightOf(sighting, shade) / all;
    }

    /** What a SHADE, or the PERSON (shade NONE), weighs as the body of a SIGHTING. */
    private int weightOf(int sighting, int shade) {
        int person = now.sightings[sighting][Guild.PERSON];
        int has = shade == NONE ? unhiredOf(person) : heldBy(shade);
        int elsewhere = has & ~(1 << sighting);
        if ((elsewhere & ~now.meets[sighting]) != 0) {
            return 0;
        }
        return shade == NONE ? 1000 : now.passes[shade][sighting];
    }

    // ---- who can be where

    public int canBe(int first, int second) {
        if (!isSighting(first) || !isSighting(second) || first == second) {
            return NONE;
        }
        return now.meets[first] >> second & 1;
    }

    public int chain(int person, int k) {
        if (!now.isThere(Guild.PERSONS, person)) {
            return NONE;
        }
        int among = unhiredOf(person);
        if (k == NONE) {
            return chains.longest(now, among);
        }
        return nthOf(chains.firstLongest(now, among), k);
    }

    public int shades(int person) {
        if (person == NONE) {
            int all = 0;
            for (int each = 0; each < now.counts[Guild.PERSONS]; each++) {
                all += fewestShades(each);
            }
            return all;
        }
        return now.isThere(Guild.PERSONS, person) ? fewestShades(person) : NONE;
    }

    private int fewestShades(int person) {
        int among = unhiredOf(person);
        return Integer.bitCount(among) - chains.longest(now, among);
    }

    public int must(int sighting) {
        if (!isSighting(sighting) || hires.shadeOf[sighting] != NONE) {
            return NONE;
        }
        int among = unhiredOf(now.sightings[sighting][Guild.PERSON]);
        int most = chains.longest(now, among);
        if (chains.longest(now, among & now.meets[sighting]) < most) {
            return 0;
        }
        return chains.longest(now, among & ~(1 << sighting)) < most ? 2 : 1;
    }

    public int clash(int k) {
        int left = k;
        for (int first = 0; first < now.counts[Guild.SIGHTINGS] && left >= 0; first++) {
            if (hires.shadeOf[first] != NONE) {
                continue;
            }
            int later = -2 << first;
            int among = unhiredOf(now.sightings[first][Guild.PERSON]) & later;
            int clashing = among & ~now.meets[first];
            int second = nthOf(clashing, left);
            if (second != NONE) {
                return 100 * first + second;
            }
            left -= Integer.bitCount(clashing);
        }
        return NONE;
    }

    public int could(int place, int hour, boolean shades) {
        if (!isPlaceAndHour(place, hour)) {
            return NONE;
        }
        int apart = ~now.near(place, hour);
        int bodies = 0;
        for (int body = 0; body < now.counts[shades ? Guild.SHADES : Guild.PERSONS]; body++) {
            int has = shades ? heldBy(body) : unhiredOf(body);
            if ((has & apart) == 0) {
                bodies |= 1 << body;
            }
        }
        return bodies;
    }

    public int ways(int least) {
        if (least < 0 || !crews.choose(unhired(), Crews.MOST_TRUE)) {
            return NONE;
        }
        return crews.countWays(now, hires, least);
    }

    // ---- hires

    public boolean hire(int sighting, int shade) {
        if (!isSighting(sighting) || (shade != NONE && !isShade(shade))) {
            return false;
        }
        if (hires.shadeOf[sighting] == shade) {
            return false;
        }
        if (shade != NONE && (heldBy(shade) & ~now.meets[sighting]) != 0) {
            return false;
        }
        hires.remember();
        hires.shadeOf[sighting] = shade;
        return true;
    }

    public boolean undo() {
        return hires.takeBack();
    }

    public int crew(int sightings, int least, int k) {
        if (!findCrew(sightings, least)) {
            return NONE;
        }
        if (k == NONE) {
            return crews.crewPrice;
        }
        return k >= 0 && k < crews.chosenCount ? crews.crewOf[k] : NONE;
    }

    public int take(int sightings, int least) {
        if (sightings == 0 || !findCrew(sightings, least)) {
            return NONE;
        }
        hires.remember();
        for (int k = 0; k < crews.chosenCount; k++) {
            hires.shadeOf[crews.chosen[k]] = crews.crewOf[k];
        }
        return crews.crewPrice;
    }

    private boolean findCrew(int sightings, int least) {
        return least >= 0
                && (sightings & ~unhired()) == 0
                && crews.choose(sightings, Crews.MOST_CREW)
                && crews.findCheapest(now, hires, least);
    }

    public int crowd(int place, int hour, int n, int k) {
        if (!isPlaceAndHour(place, hour) || n < 1 || n > 5 || k < NONE || k >= n) {
            return NONE;
        }
        int left = could(place, hour, true);
        if (Integer.bitCount(left) < n) {
            return NONE;
        }
        int fees = 0;
        for (int nth = 0; nth < n; nth++) {
            int shade = cheapestOf(left);
            if (nth == k || shade == NONE) {
                return shade;
            }
            left &= ~(1 << shade);
            fees += now.fees[shade];
        }
        return fees;
    }

    /** The SHADE with the least fee among those of the bits, of like ones the first. */
    private int cheapestOf(int bits) {
        int found = NONE;
        for (int shade = 0; shade < now.counts[Guild.SHADES]; shade++) {
            boolean isAmong = (bits >> shade & 1) == 1;
            if (isAmong && (found == NONE || now.fees[shade] < now.fees[found])) {
                found = shade;
            }
        }
        return found;
    }

    public int shade(int shade, int what) {
        if (!isShade(shade)) {
            return NONE;
        }
        int held = heldBy(shade);
        switch (what) {
            case 0:
                return Integer.bitCount(held);
            case 1:
                return pricesOf(shade, held);
            case 2:
                return now.firstByHour(held);
            case 3:
                return now.hoursAlong(held);
            case 4:
                return leastPassOf(shade, held);
            default:
                return NONE;
        }
    }

    private int pricesOf(int shade, int held) {
        int sum = 0;
        for (int sighting = 0; sighting < now.counts[Guild.SIGHTINGS]; sighting++) {
            if ((held >> sighting & 1) == 1) {
                sum += now.prices[shade][sighting];
            }
        }
        return sum;
    }

    private int leastPassOf(int shade, int held) {
        int least = NONE;
        for (int sighting = 0; sighting < now.counts[Guild.SIGHTINGS]; sighting++) {
            int passes = now.passes[shade][sighting];
            if ((held >> sighting & 1) == 1 && (least == NONE || passes < least)) {
                least = passes;
            }
        }
        return least;
    }

    // ---- days

    public boolean seed(int seed) {
        if (seed < 0) {
            return false;
        }
        drawn = seed;
        return true;
    }

    public int days(int n, int what) {
        if (n < 1 || n > 100 || what < 0 || what > 1) {
            return NO_DAYS;
        }
        int gets = 0;
        int foundOut = 0;
        for (int day = 0; day < n; day++) {
            for (int sighting = 0; sighting < now.counts[Guild.SIGHTINGS]; sighting++) {
                int shade = hires.shadeOf[sighting];
                if (shade == NONE) {
                    continue;
                }
                if (drawOfThousand() < now.passes[shade][sighting]) {
                    gets += now.titheOf(shade, sighting);
                } else {
                    gets -= now.prices[shade][sighting];
                    foundOut++;
                }
            }
        }
        return what == 0 ? gets : foundOut;
    }

    private int drawOfThousand() {
        drawn = (int) ((1103515245L * drawn + 12345) % (1L << 31));
        return drawn / 64 % 1000;
    }

    public int average() {
        int sum = 0;
        for (int sighting = 0; sighting < now.counts[Guild.SIGHTINGS]; sighting++) {
            int shade = hires.shadeOf[sighting];
            if (shade != NONE) {
                int passes = now.passes[shade][sighting];
                sum += now.titheOf(shade, sighting) * passes;
                sum -= now.prices[shade][sighting] * (1000 - passes);
            }
        }
        return sum;
    }

    // ---- images

    public int image() {
        int count = now.counts[Guild.SIGHTINGS];
        for (int sighting = 0; sighting < count; sighting++) {
            image[sighting] = hires.shadeOf[sighting] + 1;
        }
        image[count] = checkByte(image, count);
        imageLength = count + 1;
        return imageLength;
    }

    public int octet(int k) {
        return k >= 0 && k < imageLength ? image[k] : NONE;
    }

    public boolean on() {
        boolean isTaken = isImage();
        tape.length = 0;
        if (!isTaken) {
            return false;
        }
        hires.clear();
        for (int sighting = 0; sighting < now.counts[Guild.SIGHTINGS]; sighting++) {
            hires.shadeOf[sighting] = tape.bytes[sighting] - 1;
        }
        return true;
    }

    private boolean isImage() {
        int count = now.counts[Guild.SIGHTINGS];
        if (tape.length != count + 1 || tape.bytes[count] != checkByte(tape.bytes, count)) {
            return false;
        }
        for (int sighting = 0; sighting < count; sighting++) {
            int told = tape.bytes[sighting];
            if (told > now.counts[Guild.SHADES] || (told > 0 && !meetsAllTold(sighting, count))) {
                return false;
            }
        }
        return true;
    }

    /** Whether the SHADE that the tape tells for a SIGHTING CAN BE at all others told for it, too. */
    private boolean meetsAllTold(int sighting, int count) {
        for (int other = 0; other < count; other++) {
            boolean isSameBody = tape.bytes[other] == tape.bytes[sighting];
            if (isSameBody && (now.meets[sighting] >> other & 1) == 0) {
                return false;
            }
        }
        return true;
    }

    private static int checkByte(int[] bytes, int count) {
        int check = 73;
        for (int k = 0; k < count; k++) {
            check = (7 * check + bytes[k]) % 251;
        }
        return check;
    }

    // ---- what the calls have in common

    private boolean isSighting(int sighting) {
        return now.isThere(Guild.SIGHTINGS, sighting);
    }

    private boolean isShade(int shade) {
        return now.isThere(Guild.SHADES, shade);
    }

    private boolean isPlaceAndHour(int place, int hour) {
        return now.isThere(Guild.PLACES, place) && hour >= 0 && hour <= MOST_HOUR;
    }

    private int heldBy(int shade) {
        return hires.held(shade, now.counts[Guild.SIGHTINGS]);
    }

    private int unhired() {
        return heldBy(NONE);
    }

    private int unhiredOf(int person) {
        return unhired() & now.sightingsOf(person);
    }

    /** The number of the n-th bit (from 0) that is set; NONE if there are not so many. */
    private static int nthOf(int bits, int n) {
        int left = n;
        for (int bit = 0; bit < MOST_SIGHTINGS; bit++) {
            if ((bits >> bit & 1) == 1) {
                if (left == 0) {
                    return bit;
                }
                left--;
            }
        }
        return NONE;
    }

    /** The OWN WORDS by their numbers, in the order of Tape.OWN_WORDS. */
    private static final class Word {
        static final int TRAITS = 0;
        static final int PERSON = 1;
        static final int SHADE = 2;
        static final int FEE = 3;
        static final int FAKES = 4;
        static final int PLACE = 5;
        static final int ROAD = 6;
        static final int SEEN = 7;
        static final int AT = 8;
        static final int HOUR = 9;
        static final int LIGHT = 10;
        static final int RAIN = 11;
        static final int DRY = 12;
        static final int PRICE = 13;
        static final int WHEN = 14;
        static final int TITHE = 15;
        static final int OR = 16;
        static final int AND = 17;
        static final int NOT = 18;
        static final int ALL = 19;
        static final int WET = 20;
        static final int UNLIKE = 21;
        static final int PASS = 22;
        static final int MIN = 23;
        static final int MAX = 24;
        static final int COUNT = 25;
    }

    /** The bytes that were fed, read from the first on; the first FAULT along them is kept. */
    private static final class Tape {
        private static final String OWN_WORDS =
                "traits person shade fee fakes place road seen at hour light rain dry price when tithe or and not all wet unlike pass min max ";
        private static final int MOST_LETTERS = 6;
        private static final int MOST_DIGITS = 4;
        private static final int LETTER_BITS = 5;

        final int[] bytes = new int[MOST_BYTES];
        int length;
        int place;
        int fault;
        int faultPlace = NONE;
        /** Where the latest number or NAME began, and what it is. */
        int start;
        int value;
        /** Where the word that wordHere() looked at ends. */
        private int wordEnd;
        /** Where the latest word or number ended: another one right there lacks its blank. */
        private int gluedPlace;

        void append(int four) {
            for (int shift = 24; shift >= 0 && length < MOST_BYTES; shift -= 8) {
                bytes[length] = four >> shift & 255;
                length++;
            }
        }

        void rewind() {
            place = 0;
            gluedPlace = NONE;
            fault = 0;
            faultPlace = NONE;
        }

        boolean fail(int what, int where) {
            fault = what;
            faultPlace = where;
            return false;
        }

        boolean failHere() {
            return fail(1, place);
        }

        /** The first byte from here on that is no blank; NONE at the end. It isn't taken. */
        int skipBlanks() {
            while (place < length && (bytes[place] == 10 || bytes[place] == 32)) {
                place++;
            }
            return place < length ? bytes[place] : NONE;
        }

        boolean takeSign(int sign) {
            if (skipBlanks() != sign) {
                return fail(1, place);
            }
            place++;
            return true;
        }

        /** Takes the sign if it is there; no FAULT if it isn't. */
        boolean passOver(int sign) {
            if (skipBlanks() != sign) {
                return false;
            }
            place++;
            return true;
        }

        /** The number of the OWN WORD that stands here; NONE if there is none. It isn't taken. */
        int wordHere() {
            skipBlanks();
            wordEnd = place;
            while (wordEnd < length && isLetter(bytes[wordEnd]) && place != gluedPlace) {
                wordEnd++;
            }
            if (wordEnd == place) {
                return NONE;
            }
            int word = 0;
            int like = place;
            for (int k = 0; k < OWN_WORDS.length(); k++) {
                int sign = OWN_WORDS.charAt(k);
                if (sign != ' ') {
                    like = like != NONE && like < wordEnd && bytes[like] == sign ? like + 1 : NONE;
                } else if (like == wordEnd) {
                    return word;
                } else {
                    word++;
                    like = place;
                }
            }
            return NONE;
        }

        boolean takeWord(int word) {
            if (wordHere() != word) {
                return failHere();
            }
            return takeWordHere();
        }

        /** Takes the OWN WORD if it is there; no FAULT if it isn't. */
        boolean passOverWord(int word) {
            return wordHere() == word && takeWordHere();
        }

        /** Takes the word that wordHere() has just found. */
        boolean takeWordHere() {
            place = wordEnd;
            gluedPlace = place;
            return true;
        }

        boolean takeNumber(int least, int most) {
            if (!isDigit(skipBlanks()) || place == gluedPlace) {
                return fail(1, place);
            }
            start = place;
            value = 0;
            while (place < length && isDigit(bytes[place])) {
                if (place - start == MOST_DIGITS) {
                    return fail(1, place);
                }
                value = 10 * value + bytes[place] - '0';
                place++;
            }
            gluedPlace = place;
            return (value >= least && value <= most) || fail(2, start);
        }

        boolean takeName() {
            if (wordHere() != NONE || wordEnd == place) {
                return failHere();
            }
            start = place;
            value = 0;
            while (place < wordEnd) {
                int k = place - start;
                if (k == MOST_LETTERS) {
                    return failHere();
                }
                value |= bytes[place] - 'a' + 1 << LETTER_BITS * k;
                place++;
            }
            gluedPlace = place;
            return true;
        }

        /** Letter k of a NAME as takeName() packs it. */
        static int letterOf(int name, int k) {
            return name >> LETTER_BITS * k & 31;
        }

        static boolean isDigit(int sign) {
            return sign >= '0' && sign <= '9';
        }

        private static boolean isLetter(int sign) {
            return sign >= 'a' && sign <= 'z';
        }
    }

    /** What a GUILD's text tells, and what follows from it whoever is HIRED. */
    private static final class Guild {
        static final int TRAITS = 0;
        static final int PERSONS = 1;
        static final int SHADES = 2;
        static final int PLACES = 3;
        static final int SIGHTINGS = 4;
        static final int RULES = 5;
        static final int ROADS = 6;
        private static final int[] MOST = {6, 8, 5, 8, 24, 6, 20};

        static final int PERSON = 0;
        static final int PLACE = 1;
        static final int HOUR = 2;
        static final int LIGHT = 3;
        static final int RAIN = 4;

        /** More HOURS than any two SIGHTINGS can be apart. */
        static final int UNREACHED = 1000;

        final int[] counts = new int[7];
        final int[][] names = new int[4][8];
        final int[][] shows = new int[6][2];
        final int[][] looks = new int[8][6];
        final int[][] owns = new int[5][6];
        final int[][] fakes = new int[5][6];
        final int[] fees = new int[5];
        final int[][] hours = new int[8][8];
        final int[][] sightings = new int[MOST_SIGHTINGS][5];
        final int[][] passes = new int[5][MOST_SIGHTINGS];
        final int[][] prices = new int[5][MOST_SIGHTINGS];
        /** For each SIGHTING those, as bits, at which the same body CAN BE (itself, too). */
        final int[] meets = new int[MOST_SIGHTINGS];
        final int[] byHour = new int[MOST_SIGHTINGS];
        int statements;
        int tithe;

        void clear() {
            statements = 0;
            tithe = 0;
            for (int kind = TRAITS; kind <= ROADS; kind++) {
                counts[kind] = 0;
            }
            for (int first = 0; first < 8; first++) {
                for (int second = 0; second < 8; second++) {
                    hours[first][second] = first == second ? 0 : UNREACHED;
                }
            }
        }

        boolean hasRoom(int kind) {
            return counts[kind] < MOST[kind];
        }

        boolean isThere(int kind, int which) {
            return which >= 0 && which < counts[kind];
        }

        /** Which one of a kind bears a NAME; NONE if none does. */
        int named(int kind, int name) {
            for (int which = 0; which < counts[kind]; which++) {
                if (names[kind][which] == name) {
                    return which;
                }
            }
            return NONE;
        }

        boolean isGiven(int name) {
            for (int kind = TRAITS; kind <= PLACES; kind++) {
                if (named(kind, name) != NONE) {
                    return true;
                }
            }
            return false;
        }

        void addNamed(int kind, int name) {
            if (hasRoom(kind)) {
                names[kind][counts[kind]] = name;
                counts[kind]++;
            }
        }

        void addRoad(int first, int second, int length) {
            int shortest = Math.min(length, hours[first][second]);
            hours[first][second] = shortest;
            hours[second][first] = shortest;
            counts[ROADS]++;
        }

        /** Reckons all that follows from the text but the PRICES. */
        void settle() {
            joinRoads();
            sortByHour();
            for (int sighting = 0; sighting < counts[SIGHTINGS]; sighting++) {
                meets[sighting] = near(sightings[sighting][PLACE], sightings[sighting][HOUR]);
                for (int shade = 0; shade < counts[SHADES]; shade++) {
                    passes[shade][sighting] = passOf(shade, sighting);
                }
            }
        }

        private void joinRoads() {
            for (int middle = 0; middle < counts[PLACES]; middle++) {
                for (int first = 0; first < counts[PLACES]; first++) {
                    for (int second = 0; second < counts[PLACES]; second++) {
                        int through = hours[first][middle] + hours[middle][second];
                        hours[first][second] = Math.min(hours[first][second], through);
                    }
                }
            }
        }

        /** Puts the SIGHTINGS in order by HOUR, those of one HOUR by their numbers. */
        private void sortByHour() {
            for (int sighting = 0; sighting < counts[SIGHTINGS]; sighting++) {
                int at = sighting;
                while (at > 0 && sightings[byHour[at - 1]][HOUR] > sightings[sighting][HOUR]) {
                    byHour[at] = byHour[at - 1];
                    at--;
                }
                byHour[at] = sighting;
            }
        }

        /** The SIGHTINGS, as bits, at which a body CAN BE that is in a PLACE at an HOUR. */
        int near(int place, int hour) {
            int bits = 0;
            for (int sighting = 0; sighting < counts[SIGHTINGS]; sighting++) {
                int apart = Math.abs(hour - sightings[sighting][HOUR]);
                if (apart >= hours[place][sightings[sighting][PLACE]]) {
                    bits |= 1 << sighting;
                }
            }
            return bits;
        }

        private int passOf(int shade, int sighting) {
            int[] looksLike = looks[sightings[sighting][PERSON]];
            int left = 1000;
            for (int trait = 0; trait < counts[TRAITS]; trait++) {
                if (owns[shade][trait] != looksLike[trait] && fakes[shade][trait] == 0) {
                    int shown = shows[trait][sightings[sighting][RAIN]] * sightings[sighting][LIGHT];
                    left = left * (10000 - shown) / 10000;
                }
            }
            return left;
        }

        /** In how many TRAITS a SHADE's own are not the PERSON's of a SIGHTING. */
        int unlikeTraits(int shade, int sighting) {
            int[] looksLike = looks[sightings[sighting][PERSON]];
            int count = 0;
            for (int trait = 0; trait < counts[TRAITS]; trait++) {
                if (owns[shade][trait] != looksLike[trait]) {
                    count++;
                }
            }
            return count;
        }

        int titheOf(int shade, int sighting) {
            return prices[shade][sighting] * tithe / 100;
        }

        int allSightings() {
            return (1 << counts[SIGHTINGS]) - 1;
        }

        int sightingsOf(int person) {
            int bits = 0;
            for (int sighting = 0; sighting < counts[SIGHTINGS]; sighting++) {
                if (sightings[sighting][PERSON] == person) {
                    bits |= 1 << sighting;
                }
            }
            return bits;
        }

        /** The first of some SIGHTINGS by HOUR, then by number; NONE of none. */
        int firstByHour(int bits) {
            for (int k = 0; k < counts[SIGHTINGS]; k++) {
                if ((bits >> byHour[k] & 1) == 1) {
                    return byHour[k];
                }
            }
            return NONE;
        }

        /** The HOURS from the first of some SIGHTINGS to the last; 0 of none. */
        int hoursAlong(int bits) {
            int first = firstByHour(bits);
            int along = 0;
            for (int k = 0; k < counts[SIGHTINGS] && first != NONE; k++) {
                if ((bits >> byHour[k] & 1) == 1) {
                    along = sightings[byHour[k]][HOUR] - sightings[first][HOUR];
                }
            }
            return along;
        }
    }

    /** Reads the tape as a GUILD's text, but for what the RULES say. */
    private static final class GuildReader {
        private static final int MOST_STATEMENTS = 90;
        private static final int MOST_TRAITS = 6;

        private final Tape tape;
        private final Rules rules;
        private Guild into;

        GuildReader(Tape tape) {
            this.tape = tape;
            this.rules = new Rules(tape);
        }

        boolean read(Guild guild) {
            into = guild;
            into.clear();
            rules.clear();
            tape.rewind();
            for (int n = 0; n < MOST_STATEMENTS; n++) {
                if (n > 0 && tape.skipBlanks() == NONE) {
                    return true;
                }
                if (!readStatement(n == 0) || !tape.takeSign(';')) {
                    return false;
                }
                into.statements++;
            }
            return tape.skipBlanks() == NONE || tape.fail(5, tape.place);
        }

        /** Reckons what follows from what was read. */
        void settle() {
            into.settle();
            rules.setPrices(into);
        }

        private boolean readStatement(boolean isFirst) {
            int word = tape.wordHere();
            if (isFirst != (word == Word.TRAITS)) {
                return tape.failHere();
            }
            switch (word) {
                case Word.TRAITS:
                    return tape.takeWordHere() && readTraits();
                case Word.PERSON:
                    return begin(Guild.PERSONS) && readPerson();
                case Word.SHADE:
                    return begin(Guild.SHADES) && readShade();
                case Word.PLACE:
                    return begin(Guild.PLACES) && readNewName(Guild.PLACES);
                case Word.ROAD:
                    return begin(Guild.ROADS) && readRoad();
                case Word.SEEN:
                    return begin(Guild.SIGHTINGS) && readSeen();
                case Word.PRICE:
                    return begin(Guild.RULES) && rules.readRule(into);
                case Word.TITHE:
                    return tape.takeWordHere() && readTithe();
                default:
                    return tape.failHere();
            }
        }

        private boolean begin(int kind) {
            return into.hasRoom(kind) ? tape.takeWordHere() : tape.fail(5, tape.place);
        }

        private boolean readTraits() {
            boolean isMore = true;
            for (int trait = 0; trait < MOST_TRAITS && isMore; trait++) {
                boolean isRead = readNewName(Guild.TRAITS)
                        && readNumber(into.shows[trait], 0, 0, 100)
                        && readNumber(into.shows[trait], 1, 0, 100);
                if (!isRead) {
                    return false;
                }
                // The sign ahead of a 7th TRAIT is left for the statement's end to refuse.
                isMore = trait < MOST_TRAITS - 1 && tape.passOver(',');
            }
            return true;
        }

        private boolean readPerson() {
            int person = into.counts[Guild.PERSONS];
            return readNewName(Guild.PERSONS) && readForTraits(into.looks[person], 9);
        }

        private boolean readShade() {
            int shade = into.counts[Guild.SHADES];
            return readNewName(Guild.SHADES)
                    && tape.takeWord(Word.FEE)
                    && readNumber(into.fees, shade, 1, 99)
                    && readForTraits(into.owns[shade], 9)
                    && tape.takeWord(Word.FAKES)
                    && readForTraits(into.fakes[shade], 1);
        }

        private boolean readRoad() {
            if (!readKnownName(Guild.PLACES)) {
                return false;
            }
            int first = tape.value;
            if (!readKnownName(Guild.PLACES)) {
                return false;
            }
            int second = tape.value;
            if (first == second) {
                return tape.fail(3, tape.start);
            }
            if (!tape.takeNumber(1, 9)) {
                return false;
            }
            into.addRoad(first, second, tape.value);
            return true;
        }

        private boolean readSeen() {
            int[] row = into.sightings[into.counts[Guild.SIGHTINGS]];
            if (!readKnownName(Guild.PERSONS)) {
                return false;
            }
            row[Guild.PERSON] = tape.value;
            if (!tape.takeWord(Word.AT) || !readKnownName(Guild.PLACES)) {
                return false;
            }
            row[Guild.PLACE] = tape.value;
            boolean isRead = tape.takeWord(Word.HOUR)
                    && readNumber(row, Guild.HOUR, 0, MOST_HOUR)
                    && tape.takeWord(Word.LIGHT)
                    && readNumber(row, Guild.LIGHT, 0, 100);
            if (!isRead) {
                return false;
            }
            row[Guild.RAIN] = tape.passOverWord(Word.RAIN) ? 1 : 0;
            if (row[Guild.RAIN] == 0 && !tape.takeWord(Word.DRY)) {
                return false;
            }
            into.counts[Guild.SIGHTINGS]++;
            return true;
        }

        private boolean readTithe() {
            if (!tape.takeNumber(0, 100)) {
                return false;
            }
            into.tithe = tape.value;
            return true;
        }

        private boolean readNumber(int[] row, int k, int least, int most) {
            if (!tape.takeNumber(least, most)) {
                return false;
            }
            row[k] = tape.value;
            return true;
        }

        private boolean readForTraits(int[] row, int most) {
            for (int trait = 0; trait < into.counts[Guild.TRAITS]; trait++) {
                if (!readNumber(row, trait, 0, most)) {
                    return false;
                }
            }
            return true;
        }

        private boolean readNewName(int kind) {
            if (!tape.takeName()) {
                return false;
            }
            if (into.isGiven(tape.value)) {
                return tape.fail(3, tape.start);
            }
            into.addNamed(kind, tape.value);
            return true;
        }

        /** Leaves in the tape's value which one of the kind it is. */
        private boolean readKnownName(int kind) {
            if (!tape.takeName()) {
                return false;
            }
            tape.value = into.named(kind, tape.value);
            return tape.value != NONE || tape.fail(3, tape.start);
        }
    }

    /**
     * Reads RULES into a code, operands ahead of what is done with them, and reckons PRICES by it.
     * A number stands for itself, a sign for -sign, an OWN WORD for WORDS - word.
     */
    private static final class Rules {
        private static final int MOST_OPEN = 6;
        private static final int WORDS = -200;
        private static final int BOUND = 1000000;

        private final Tape tape;
        private final int[] code = new int[MOST_BYTES];
        private int length;
        private final int[] sumStart = new int[7];
        private final int[] testStart = new int[6];
        private final int[] known = new int[Word.COUNT];
        private final int[] stack = new int[64];
        private int top;

        Rules(Tape tape) {
            this.tape = tape;
        }

        void clear() {
            length = 0;
        }

        boolean readRule(Guild into) {
            int rule = into.counts[Guild.RULES];
            sumStart[rule] = length;
            if (!readSum(0) || !tape.takeWord(Word.WHEN)) {
                return false;
            }
            testStart[rule] = length;
            if (!readTest(0)) {
                return false;
            }
            sumStart[rule + 1] = length;
            into.counts[Guild.RULES]++;
            return true;
        }

        private boolean emit(int what) {
            if (length < MOST_BYTES) {
                code[length] = what;
                length++;
            }
            return true;
        }

        private boolean readTest(int open) {
            if (!readBoth(open)) {
                return false;
            }
            for (int n = 0; n < MOST_BYTES && tape.passOverWord(Word.OR); n++) {
                if (!readBoth(open)) {
                    return false;
                }
                emit(WORDS - Word.OR);
            }
            return true;
        }

        private boolean readBoth(int open) {
            if (!readFact(open)) {
                return false;
            }
            for (int n = 0; n < MOST_BYTES && tape.passOverWord(Word.AND); n++) {
                if (!readFact(open)) {
                    return false;
                }
                emit(WORDS - Word.AND);
            }
            return true;
        }

        private boolean readFact(int open) {
            int word = tape.wordHere();
            if (word == Word.NOT) {
                return mayOpen(open)
                        && tape.takeWordHere()
                        && readFact(open + 1)
                        && emit(WORDS - word);
            }
            if (word == Word.ALL) {
                return tape.takeWordHere() && emit(WORDS - word);
            }
            if (tape.skipBlanks() == '[') {
                return mayOpen(open)
                        && tape.takeSign('[')
                        && readTest(open + 1)
                        && tape.takeSign(']');
            }
            if (!readSum(open)) {
                return false;
            }
            int sign = tape.skipBlanks();
            if (sign != '<' && sign != '>' && sign != '=') {
                return tape.failHere();
            }
            return tape.takeSign(sign) && readSum(open) && emit(-sign);
        }

        private boolean readSum(int open) {
            if (!readProduct(open)) {
                return false;
            }
            for (int n = 0; n < MOST_BYTES; n++) {
                int sign = tape.skipBlanks();
                if (sign != '+' && sign != '-') {
                    return true;
                }
                if (!tape.takeSign(sign) || !readProduct(open)) {
                    return false;
                }
                emit(-sign);
            }
            return true;
        }

        private boolean readProduct(int open) {
            if (!readPart(open)) {
                return false;
            }
            for (int n = 0; n < MOST_BYTES; n++) {
                int sign = tape.skipBlanks();
                if (sign != '*' && sign != '/') {
                    return true;
                }
                if (!tape.takeSign(sign) || !readPart(open)) {
                    return false;
                }
                emit(-sign);
            }
            return true;
        }

        private boolean readPart(int open) {
            int sign = tape.skipBlanks();
            if (Tape.isDigit(sign)) {
                return tape.takeNumber(0, 9999) && emit(tape.value);
            }
            if (sign == '(') {
                return mayOpen(open)
                        && tape.takeSign('(')
                        && readSum(open + 1)
                        && tape.takeSign(')');
            }
            int word = tape.wordHere();
            switch (word) {
                case Word.FEE:
                case Word.HOUR:
                case Word.LIGHT:
                case Word.WET:
                case Word.UNLIKE:
                case Word.PASS:
                    return tape.takeWordHere() && emit(WORDS - word);
                case Word.MIN:
                case Word.MAX:
                    return tape.takeWordHere() && readOfTwo(open) && emit(WORDS - word);
                default:
                    return tape.failHere();
            }
        }

        private boolean readOfTwo(int open) {
            if (tape.skipBlanks() != '(') {
                return tape.failHere();
            }
            return mayOpen(open)
                    && tape.takeSign('(')
                    && readSum(open + 1)
                    && tape.takeSign(',')
                    && readSum(open + 1)
                    && tape.takeSign(')');
        }

        private boolean mayOpen(int open) {
            return open < MOST_OPEN || tape.fail(4, tape.place);
        }

        void setPrices(Guild guild) {
            for (int shade = 0; shade < guild.counts[Guild.SHADES]; shade++) {
                for (int sighting = 0; sighting < guild.counts[Guild.SIGHTINGS]; sighting++) {
                    guild.prices[shade][sighting] = priceOf(guild, shade, sighting);
                }
            }
        }

        private int priceOf(Guild guild, int shade, int sighting) {
            known[Word.FEE] = guild.fees[shade];
            known[Word.HOUR] = guild.sightings[sighting][Guild.HOUR];
            known[Word.LIGHT] = guild.sightings[sighting][Guild.LIGHT];
            known[Word.WET] = guild.sightings[sighting][Guild.RAIN];
            known[Word.UNLIKE] = guild.unlikeTraits(shade, sighting);
            known[Word.PASS] = guild.passes[shade][sighting];
            known[Word.ALL] = 1;
            for (int rule = 0; rule < guild.counts[Guild.RULES]; rule++) {
                if (reckon(testStart[rule], sumStart[rule + 1]) != 0) {
                    return Math.max(0, Math.min(999, reckon(sumStart[rule], testStart[rule])));
                }
            }
            return guild.fees[shade];
        }

        private int reckon(int from, int to) {
            top = 0;
            for (int k = from; k < to; k++) {
                int what = code[k];
                if (what >= 0) {
                    push(what);
                } else if (what > WORDS) {
                    doSign(-what, pop(), pop());
                } else {
                    doWord(WORDS - what);
                }
            }
            return pop();
        }

        private void push(int number) {
            if (top < stack.length) {
                stack[top] = number;
                top++;
            }
        }

        private int pop() {
            if (top == 0) {
                return 0;
            }
            top--;
            return stack[top];
        }

        private void doWord(int word) {
            switch (word) {
                case Word.NOT:
                    push(1 - pop());
                    break;
                case Word.OR:
                case Word.MAX:
                    push(Math.max(pop(), pop()));
                    break;
                case Word.AND:
                case Word.MIN:
                    push(Math.min(pop(), pop()));
                    break;
                default:
                    push(known[word]);
                    break;
            }
        }

        private void doSign(int sign, int second, int first) {
            switch (sign) {
                case '+':
                    push(bounded((long) first + second));
                    break;
                case '-':
                    push(bounded((long) first - second));
                    break;
                case '*':
                    push(bounded((long) first * second));
                    break;
                case '/':
                    push(second == 0 ? 0 : Math.floorDiv(first, second));
                    break;
                case '<':
                    push(first < second ? 1 : 0);
                    break;
                case '>':
                    push(first > second ? 1 : 0);
                    break;
                default:
                    push(first == second ? 1 : 0);
                    break;
            }
        }

        private static int bounded(long number) {
            return (int) Math.max(-BOUND, Math.min(BOUND, number));
        }
    }

    /** Which SHADE each SIGHTING has, and the latest acts, that can be undone. */
    private static final class Hires {
        private static final int MOST_ACTS = 30;

        final int[] shadeOf = new int[MOST_SIGHTINGS];
        /** What shadeOf was ahead of each act: a ring of rows. */
        private final int[][] ahead = new int[MOST_ACTS][MOST_SIGHTINGS];
        private int oldest;
        int actCount;

        Hires() {
            clear();
        }

        void clear() {
            actCount = 0;
            for (int sighting = 0; sighting < MOST_SIGHTINGS; sighting++) {
                shadeOf[sighting] = NONE;
            }
        }

        /** The SIGHTINGS, as bits, that a SHADE has (NONE: that no SHADE has). */
        int held(int shade, int sightingCount) {
            int bits = 0;
            for (int sighting = 0; sighting < sightingCount; sighting++) {
                if (shadeOf[sighting] == shade) {
                    bits |= 1 << sighting;
                }
            }
            return bits;
        }

        void remember() {
            int row = (oldest + actCount) % MOST_ACTS;
            System.arraycopy(shadeOf, 0, ahead[row], 0, MOST_SIGHTINGS);
            if (actCount < MOST_ACTS) {
                actCount++;
            } else {
                oldest = (oldest + 1) % MOST_ACTS;
            }
        }

        boolean takeBack() {
            if (actCount == 0) {
                return false;
            }
            actCount--;
            int row = (oldest + actCount) % MOST_ACTS;
            System.arraycopy(ahead[row], 0, shadeOf, 0, MOST_SIGHTINGS);
            return true;
        }
    }

    /**
     * CHAINS among SIGHTINGS, told as bits. By HOUR, who CAN BE at a first and a second, and at this
     * second and a third, CAN BE at the first and the third: so only the one ahead has to be looked at.
     */
    private static final class Chains {
        private final int[] lengthTo = new int[MOST_SIGHTINGS];

        int longest(Guild guild, int among) {
            int most = 0;
            for (int k = 0; k < guild.counts[Guild.SIGHTINGS]; k++) {
                int last = guild.byHour[k];
                if ((among >> last & 1) == 1) {
                    lengthTo[last] = 1 + longestAhead(guild, among & guild.meets[last], k);
                    most = Math.max(most, lengthTo[last]);
                }
            }
            return most;
        }

        private int longestAhead(Guild guild, int among, int end) {
            int most = 0;
            for (int k = 0; k < end; k++) {
                int ahead = guild.byHour[k];
                if ((among >> ahead & 1) == 1) {
                    most = Math.max(most, lengthTo[ahead]);
                }
            }
            return most;
        }

        /** THE LONGEST CHAIN, of like ones the first by numbers, as bits. */
        int firstLongest(Guild guild, int among) {
            int most = longest(guild, among);
            int left = among;
            for (int sighting = 0; sighting < guild.counts[Guild.SIGHTINGS]; sighting++) {
                if ((left >> sighting & 1) == 1) {
                    int besides = left & guild.meets[sighting];
                    boolean isInOne = longest(guild, besides) == most;
                    left = isInOne ? besides : left & ~(1 << sighting);
                }
            }
            return left;
        }
    }

    /** Leads chosen SIGHTINGS to bodies, by tables over all sets of them. */
    private static final class Crews {
        static final int MOST_CREW = 7;
        static final int MOST_TRUE = 8;
        private static final int SHADE_BASE = 5;
        private static final int CREW_CODES = 78125;

        final int[] chosen = new int[MOST_TRUE];
        int chosenCount;
        final int[] crewOf = new int[MOST_CREW];
        int crewPrice;
        /** For each set: what the bodies so far make of it; NONE if they can't. */
        private final int[] table = new int[1 << MOST_TRUE];
        /** For each set: what one body makes of it; NONE if it can't. */
        private final int[] part = new int[1 << MOST_TRUE];

        /** False if there are more SIGHTINGS than so many. */
        boolean choose(int bits, int most) {
            if (Integer.bitCount(bits) > most) {
                return false;
            }
            chosenCount = 0;
            for (int sighting = 0; sighting < MOST_SIGHTINGS && chosenCount < most; sighting++) {
                if ((bits >> sighting & 1) == 1) {
                    chosen[chosenCount] = sighting;
                    chosenCount++;
                }
            }
            return true;
        }

        /** At most 6 to the 8 ways: the document's bound of 10 to the 9 is never reached. */
        int countWays(Guild guild, Hires hires, int least) {
            fillWithPersons(guild);
            for (int shade = 0; shade < guild.counts[Guild.SHADES]; shade++) {
                fillPart(guild, hires, shade, least, false);
                for (int set = sets() - 1; set >= 0; set--) {
                    table[set] = waysWithPart(set);
                }
            }
            return table[sets() - 1];
        }

        private int sets() {
            return 1 << chosenCount;
        }

        private void fillWithPersons(Guild guild) {
            table[0] = 1;
            for (int k = 0; k < chosenCount; k++) {
                int person = guild.sightings[chosen[k]][Guild.PERSON];
                int apart = guild.sightingsOf(person) & ~guild.meets[chosen[k]];
                int clashing = chosenAmong(apart);
                for (int rest = 0; rest < 1 << k; rest++) {
                    table[rest | 1 << k] = (rest & clashing) == 0 ? table[rest] : 0;
                }
            }
        }

        /** Which of the chosen ones are among some SIGHTINGS: bit k for the k-th. */
        private int chosenAmong(int bits) {
            int among = 0;
            for (int k = 0; k < chosenCount; k++) {
                among |= (bits >> chosen[k] & 1) << k;
            }
            return among;
        }

        private int waysWithPart(int set) {
            int ways = 0;
            // Each turn own is a smaller set, down to the empty one.
            for (int own = set; own >= 0; own = own == 0 ? NONE : own - 1 & set) {
                if (part[own] != NONE) {
                    ways += table[set ^ own];
                }
            }
            return ways;
        }

        /** False if there is no CREW. */
        boolean findCheapest(Guild guild, Hires hires, int least) {
            for (int set = 0; set < sets(); set++) {
                table[set] = set == 0 ? 0 : NONE;
            }
            for (int shade = 0; shade < guild.counts[Guild.SHADES]; shade++) {
                fillPart(guild, hires, shade, least, true);
                for (int set = sets() - 1; set >= 0; set--) {
                    table[set] = cheapestWithPart(set);
                }
            }
            int cheapest = table[sets() - 1];
            if (cheapest == NONE) {
                return false;
            }
            crewPrice = cheapest / CREW_CODES;
            int shades = cheapest % CREW_CODES;
            for (int k = MOST_CREW - 1; k >= 0; k--) {
                crewOf[k] = shades % SHADE_BASE;
                shades /= SHADE_BASE;
            }
            return true;
        }

        private int cheapestWithPart(int set) {
            int least = NONE;
            // Each turn own is a smaller set, down to the empty one.
            for (int own = set; own >= 0; own = own == 0 ? NONE : own - 1 & set) {
                int rest = table[set ^ own];
                if (part[own] != NONE && rest != NONE && (least == NONE || part[own] + rest < least)) {
                    least = part[own] + rest;
                }
            }
            return least;
        }

        /** The cost of each set for one SHADE besides what it is HIRED for (0 if they are not counted). */
        private void fillPart(Guild guild, Hires hires, int shade, int least, boolean isCounted) {
            int held = hires.held(shade, guild.counts[Guild.SIGHTINGS]);
            int place = CREW_CODES / SHADE_BASE;
            part[0] = 0;
            for (int k = 0; k < chosenCount; k++) {
                int meets = guild.meets[chosen[k]];
                boolean canHave = guild.passes[shade][chosen[k]] >= least && (held & ~meets) == 0;
                int cost = isCounted ? guild.prices[shade][chosen[k]] * CREW_CODES + shade * place : 0;
                int clashing = chosenAmong(~meets);
                for (int rest = 0; rest < 1 << k; rest++) {
                    boolean fits = canHave && part[rest] != NONE && (rest & clashing) == 0;
                    part[rest | 1 << k] = fits ? part[rest] + cost : NONE;
                }
                place /= SHADE_BASE;
            }
        }
    }
}
