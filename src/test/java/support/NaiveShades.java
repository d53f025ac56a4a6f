import java.util.ArrayDeque;
import java.util.ArrayList;
import java.util.Arrays;
import java.util.Deque;
import java.util.List;

/**
 * The document once more, as slowly and plainly as it can be said: every set and every crew is tried.
 * RandomRunsTest holds the answers of HiredShades against these.
 */
final class NaiveShades {
    static final int NONE = -1;

    private List<Integer> tape = new ArrayList<>();
    private NaiveGuild guild = new NaiveGuild();
    private int[] shadeOf = new int[0];
    private final Deque<int[]> acts = new ArrayDeque<>();
    private int fault;
    private int faultPlace = NONE;
    private long x = 1;
    private List<Integer> image = new ArrayList<>();

    int feed(int... five) {
        if (tape.size() + 20 > 1600) {
            return NONE;
        }
        for (int number : five) {
            for (int shift = 24; shift >= 0; shift -= 8) {
                tape.add(number >>> shift & 255);
            }
        }
        return tape.size();
    }

    boolean end(int n) {
        if (n < 0 || n > tape.size()) {
            return false;
        }
        tape = new ArrayList<>(tape.subList(0, n));
        return true;
    }

    int guild() {
        StringBuilder text = new StringBuilder();
        for (int it : tape) {
            text.append((char) it);
        }
        tape = new ArrayList<>();
        try {
            guild = new NaiveGuild(text.toString());
        } catch (NaiveGuild.Fault found) {
            fault = found.kind;
            faultPlace = found.place;
            return NONE;
        }
        fault = 0;
        faultPlace = NONE;
        shadeOf = new int[guild.seen.size()];
        Arrays.fill(shadeOf, NONE);
        acts.clear();
        return guild.statements;
    }

    int fault(int what) {
        return what == 0 ? fault : what == 1 ? faultPlace : NONE;
    }

    int has(int what) {
        switch (what) {
            case 0: return guild.traits.size();
            case 1: return guild.persons.size();
            case 2: return guild.shades.size();
            case 3: return guild.places.size();
            case 4: return guild.seen.size();
            case 5: return guild.rules.size();
            case 6: return guild.tithe;
            case 7: return (int) Arrays.stream(shadeOf).filter(s -> s != NONE).count();
            case 8: return acts.size();
            default: return NONE;
        }
    }

    int letter(int kind, int which, int k) {
        List<List<String>> all = List.of(guild.traits, guild.persons, guild.shades, guild.places);
        if (kind < 0 || kind > 3 || which < 0 || which >= all.get(kind).size() || k < 0 || k > 5) {
            return NONE;
        }
        String name = all.get(kind).get(which);
        return k < name.length() ? name.charAt(k) - 96 : 0;
    }

    int trait(int trait, int who, int what) {
        if (trait < 0 || trait >= guild.traits.size()) {
            return NONE;
        }
        boolean isPerson = who >= 0 && who < guild.persons.size();
        if (who == NONE && (what == 0 || what == 1)) {
            return guild.shows.get(trait)[what];
        }
        if (what == 2 && isPerson) {
            return guild.looks.get(who)[trait];
        }
        if (what == 3 && isShade(who)) {
            return guild.owns.get(who)[trait];
        }
        return what == 4 && isShade(who) ? guild.fakes.get(who)[trait] : NONE;
    }

    int seen(int sighting, int what) {
        if (!isSighting(sighting) || what < 0 || what > 5) {
            return NONE;
        }
        return what == 5 ? shadeOf[sighting] : guild.seen.get(sighting)[what];
    }

    int far(int first, int second) {
        int n = guild.places.size();
        return first >= 0 && first < n && second >= 0 && second < n ? guild.far(first, second) : NONE;
    }

    int pass(int shade, int sighting) {
        return isShade(shade) && isSighting(sighting) ? guild.pass(shade, sighting) : NONE;
    }

    int price(int shade, int sighting) {
        return isShade(shade) && isSighting(sighting) ? guild.price(shade, sighting) : NONE;
    }

    int best(int sighting, boolean most, int least) {
        int best = NONE;
        for (int shade = 0; isSighting(sighting) && shade < guild.shades.size(); shade++) {
            if (most && (best == NONE || pass(shade, sighting) > pass(best, sighting))) {
                best = shade;
            }
            if (!most && pass(shade, sighting) >= least
                    && (best == NONE || price(shade, sighting) < price(best, sighting))) {
                best = shade;
            }
        }
        return best;
    }

    int whose(int sighting, int shade) {
        if (!isSighting(sighting) || (shade != NONE && !isShade(shade))) {
            return NONE;
        }
        long all = weight(sighting, NONE);
        for (int other = 0; other < guild.shades.size(); other++) {
            all += weight(sighting, other);
        }
        return all == 0 ? 0 : (int) (1000L * weight(sighting, shade) / all);
    }

    private int weight(int sighting, int shade) {
        int person = guild.seen.get(sighting)[0];
        for (int other = 0; other < shadeOf.length; other++) {
            boolean has = shadeOf[other] == shade
                    && (shade != NONE || guild.seen.get(other)[0] == person);
            if (other != sighting && has && !guild.canBe(sighting, other)) {
                return 0;
            }
        }
        return shade == NONE ? 1000 : pass(shade, sighting);
    }

    int canBe(int first, int second) {
        if (!isSighting(first) || !isSighting(second) || first == second) {
            return NONE;
        }
        return guild.canBe(first, second) ? 1 : 0;
    }

    /** All CHAINS of the most SIGHTINGS, each by numbers, the first by numbers first. */
    private List<List<Integer>> longestChains(int person) {
        List<Integer> own = new ArrayList<>();
        for (int sighting = 0; sighting < shadeOf.length; sighting++) {
            if (shadeOf[sighting] == NONE && guild.seen.get(sighting)[0] == person) {
                own.add(sighting);
            }
        }
        List<List<Integer>> longest = new ArrayList<>();
        for (int set = 0; set < 1 << own.size(); set++) {
            List<Integer> chain = new ArrayList<>();
            for (int k = 0; k < own.size(); k++) {
                if ((set >> k & 1) == 1) {
                    chain.add(own.get(k));
                }
            }
            if (!longest.isEmpty() && longest.get(0).size() > chain.size() || !allCanBe(chain)) {
                continue;
            }
            if (!longest.isEmpty() && longest.get(0).size() < chain.size()) {
                longest.clear();
            }
            longest.add(chain);
        }
        longest.sort(NaiveShades::byNumbers);
        return longest;
    }

    private static int byNumbers(List<Integer> one, List<Integer> other) {
        for (int k = 0; k < one.size(); k++) {
            int order = Integer.compare(one.get(k), other.get(k));
            if (order != 0) {
                return order;
            }
        }
        return 0;
    }

    private boolean allCanBe(List<Integer> sightings) {
        for (int first : sightings) {
            for (int second : sightings) {
                if (first < second && !guild.canBe(first, second)) {
                    return false;
                }
            }
        }
        return true;
    }

    int chain(int person, int k) {
        if (person < 0 || person >= guild.persons.size()) {
            return NONE;
        }
        List<Integer> chain = longestChains(person).get(0);
        return k == NONE ? chain.size() : k >= 0 && k < chain.size() ? chain.get(k) : NONE;
    }

    int shades(int person) {
        if (person < NONE || person >= guild.persons.size()) {
            return NONE;
        }
        int all = 0;
        for (int each = 0; each < guild.persons.size(); each++) {
            int count = 0;
            for (int sighting = 0; sighting < shadeOf.length; sighting++) {
                count += shadeOf[sighting] == NONE && guild.seen.get(sighting)[0] == each ? 1 : 0;
            }
            all += person == NONE || person == each ? count - chain(each, NONE) : 0;
        }
        return all;
    }

    int must(int sighting) {
        if (!isSighting(sighting) || shadeOf[sighting] != NONE) {
            return NONE;
        }
        List<List<Integer>> longest = longestChains(guild.seen.get(sighting)[0]);
        long in = longest.stream().filter(chain -> chain.contains(sighting)).count();
        return in == 0 ? 0 : in == longest.size() ? 2 : 1;
    }

    int clash(int k) {
        List<Integer> all = new ArrayList<>();
        for (int first = 0; first < shadeOf.length; first++) {
            for (int second = first + 1; second < shadeOf.length; second++) {
                boolean isOne = guild.seen.get(first)[0] == guild.seen.get(second)[0];
                boolean isFree = shadeOf[first] == NONE && shadeOf[second] == NONE;
                if (isOne && isFree && !guild.canBe(first, second)) {
                    all.add(100 * first + second);
                }
            }
        }
        return k >= 0 && k < all.size() ? all.get(k) : NONE;
    }

    private boolean canBeThere(boolean isShade, int body, int place, int hour) {
        for (int sighting = 0; sighting < shadeOf.length; sighting++) {
            boolean has = isShade ? shadeOf[sighting] == body
                    : shadeOf[sighting] == NONE && guild.seen.get(sighting)[0] == body;
            int[] row = guild.seen.get(sighting);
            if (has && !guild.canBe(place, hour, row[1], row[2])) {
                return false;
            }
        }
        return true;
    }

    private boolean isPlaceAndHour(int place, int hour) {
        return place >= 0 && place < guild.places.size() && hour >= 0 && hour <= 99;
    }

    int could(int place, int hour, boolean shades) {
        if (!isPlaceAndHour(place, hour)) {
            return NONE;
        }
        int bits = 0;
        for (int body = 0; body < (shades ? guild.shades : guild.persons).size(); body++) {
            bits += canBeThere(shades, body, place, hour) ? 1 << body : 0;
        }
        return bits;
    }

    int ways(int least) {
        List<Integer> open = new ArrayList<>();
        for (int sighting = 0; sighting < shadeOf.length; sighting++) {
            if (shadeOf[sighting] == NONE) {
                open.add(sighting);
            }
        }
        if (least < 0 || open.size() > 8) {
            return NONE;
        }
        int[] bodyOf = new int[shadeOf.length];
        for (int sighting = 0; sighting < shadeOf.length; sighting++) {
            bodyOf[sighting] = shadeOf[sighting] == NONE ? -100 : shadeOf[sighting];
        }
        return ways(open, 0, bodyOf, least);
    }

    /** Bodies: SHADES by their numbers, a PERSON by 1000 and its number. */
    private int ways(List<Integer> open, int k, int[] bodyOf, int least) {
        if (k == open.size()) {
            return 1;
        }
        int sighting = open.get(k);
        int sum = 0;
        for (int body = -1; body < guild.shades.size(); body++) {
            int who = body == -1 ? 1000 + guild.seen.get(sighting)[0] : body;
            boolean can = body == -1 || pass(body, sighting) >= least;
            for (int other = 0; other < bodyOf.length && can; other++) {
                can = bodyOf[other] != who || guild.canBe(sighting, other);
            }
            if (can) {
                bodyOf[sighting] = who;
                sum += ways(open, k + 1, bodyOf, least);
                bodyOf[sighting] = -100;
            }
        }
        return sum;
    }

    private void act() {
        acts.addLast(shadeOf.clone());
        if (acts.size() > 30) {
            acts.removeFirst();
        }
    }

    boolean hire(int sighting, int shade) {
        if (!isSighting(sighting) || (shade != NONE && !isShade(shade)) || shadeOf[sighting] == shade) {
            return false;
        }
        for (int other = 0; other < shadeOf.length && shade != NONE; other++) {
            if (other != sighting && shadeOf[other] == shade && !guild.canBe(sighting, other)) {
                return false;
            }
        }
        act();
        shadeOf[sighting] = shade;
        return true;
    }

    boolean undo() {
        if (acts.isEmpty()) {
            return false;
        }
        shadeOf = acts.removeLast();
        return true;
    }

    private int crewPrice;
    private int[] crewBest;

    /** Null when there is none; the SIGHTINGS come by their numbers. */
    private int[] crewOf(int sightings, int least) {
        List<Integer> chosen = new ArrayList<>();
        for (int bit = 0; bit < 32; bit++) {
            if ((sightings >>> bit & 1) == 1) {
                if (!isSighting(bit) || shadeOf[bit] != NONE) {
                    return null;
                }
                chosen.add(bit);
            }
        }
        if (chosen.size() > 7 || least < 0) {
            return null;
        }
        crewPrice = Integer.MAX_VALUE;
        crewBest = null;
        tryCrews(chosen, 0, shadeOf.clone(), 0, least);
        return crewBest;
    }

    private void tryCrews(List<Integer> chosen, int k, int[] now, int price, int least) {
        if (k == chosen.size()) {
            if (price < crewPrice) {
                crewPrice = price;
                crewBest = chosen.stream().mapToInt(s -> now[s]).toArray();
            }
            return;
        }
        int sighting = chosen.get(k);
        for (int shade = 0; shade < guild.shades.size(); shade++) {
            boolean can = pass(shade, sighting) >= least;
            for (int other = 0; other < now.length && can; other++) {
                can = now[other] != shade || guild.canBe(sighting, other);
            }
            if (can) {
                now[sighting] = shade;
                tryCrews(chosen, k + 1, now, price + price(shade, sighting), least);
                now[sighting] = NONE;
            }
        }
    }

    int crew(int sightings, int least, int k) {
        int[] crew = crewOf(sightings, least);
        if (crew == null) {
            return NONE;
        }
        return k == NONE ? crewPrice : k >= 0 && k < crew.length ? crew[k] : NONE;
    }

    int take(int sightings, int least) {
        int[] crew = sightings == 0 ? null : crewOf(sightings, least);
        if (crew == null) {
            return NONE;
        }
        act();
        int k = 0;
        for (int sighting = 0; sighting < shadeOf.length; sighting++) {
            if ((sightings >> sighting & 1) == 1) {
                shadeOf[sighting] = crew[k++];
            }
        }
        return crewPrice;
    }

    int crowd(int place, int hour, int n, int k) {
        if (!isPlaceAndHour(place, hour) || n < 1 || n > 5) {
            return NONE;
        }
        List<Integer> free = new ArrayList<>();
        for (int shade = 0; shade < guild.shades.size(); shade++) {
            if (canBeThere(true, shade, place, hour)) {
                free.add(shade);
            }
        }
        free.sort((a, b) -> guild.fees.get(a) - guild.fees.get(b));
        if (free.size() < n) {
            return NONE;
        }
        if (k != NONE) {
            return k >= 0 && k < n ? free.get(k) : NONE;
        }
        return free.subList(0, n).stream().mapToInt(s -> guild.fees.get(s)).sum();
    }

    int shade(int shade, int what) {
        if (!isShade(shade)) {
            return NONE;
        }
        List<Integer> held = new ArrayList<>();
        for (int sighting = 0; sighting < shadeOf.length; sighting++) {
            if (shadeOf[sighting] == shade) {
                held.add(sighting);
            }
        }
        held.sort((a, b) -> guild.seen.get(a)[2] - guild.seen.get(b)[2]);
        switch (what) {
            case 0: return held.size();
            case 1: return held.stream().mapToInt(s -> price(shade, s)).sum();
            case 2: return held.isEmpty() ? NONE : held.get(0);
            case 3: return held.isEmpty() ? 0
                    : guild.seen.get(held.get(held.size() - 1))[2] - guild.seen.get(held.get(0))[2];
            case 4: return held.stream().mapToInt(s -> pass(shade, s)).min().orElse(NONE);
            default: return NONE;
        }
    }

    boolean seed(int seed) {
        if (seed >= 0) {
            x = seed;
        }
        return seed >= 0;
    }

    int days(int n, int what) {
        if (n < 1 || n > 100 || what < 0 || what > 1) {
            return -1000000000;
        }
        int money = 0;
        int found = 0;
        for (int day = 0; day < n; day++) {
            for (int sighting = 0; sighting < shadeOf.length; sighting++) {
                if (shadeOf[sighting] == NONE) {
                    continue;
                }
                x = (1103515245L * x + 12345) % 2147483648L;
                long draw = x / 64 % 1000;
                int price = price(shadeOf[sighting], sighting);
                boolean isFound = draw >= pass(shadeOf[sighting], sighting);
                found += isFound ? 1 : 0;
                money += isFound ? -price : price * guild.tithe / 100;
            }
        }
        return what == 0 ? money : found;
    }

    int average() {
        int sum = 0;
        for (int sighting = 0; sighting < shadeOf.length; sighting++) {
            if (shadeOf[sighting] != NONE) {
                int price = price(shadeOf[sighting], sighting);
                int pass = pass(shadeOf[sighting], sighting);
                sum += price * guild.tithe / 100 * pass - price * (1000 - pass);
            }
        }
        return sum;
    }

    int image() {
        image = new ArrayList<>();
        int check = 73;
        for (int shade : shadeOf) {
            image.add(shade + 1);
            check = (7 * check + shade + 1) % 251;
        }
        image.add(check);
        return image.size();
    }

    int octet(int k) {
        return k >= 0 && k < image.size() ? image.get(k) : NONE;
    }

    boolean on() {
        List<Integer> told = tape;
        tape = new ArrayList<>();
        if (told.size() != shadeOf.length + 1) {
            return false;
        }
        int check = 73;
        for (int k = 0; k < shadeOf.length; k++) {
            check = (7 * check + told.get(k)) % 251;
            if (told.get(k) > guild.shades.size()) {
                return false;
            }
            for (int other = 0; other < k; other++) {
                if (told.get(k) > 0 && told.get(k).equals(told.get(other)) && !guild.canBe(k, other)) {
                    return false;
                }
            }
        }
        if (check != told.get(shadeOf.length)) {
            return false;
        }
        for (int k = 0; k < shadeOf.length; k++) {
            shadeOf[k] = told.get(k) - 1;
        }
        acts.clear();
        return true;
    }

    private boolean isShade(int shade) {
        return shade >= 0 && shade < guild.shades.size();
    }

    private boolean isSighting(int sighting) {
        return sighting >= 0 && sighting < guild.seen.size();
    }
}
