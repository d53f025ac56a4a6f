import java.util.ArrayList;
import java.util.List;
import java.util.function.ToIntBiFunction;

/** A guild's text, cut into pieces first and read by them; all else is reckoned anew when asked. */
final class NaiveGuild {
    private static final List<String> OWN_WORDS = List.of("traits", "person", "shade", "fee", "fakes",
            "place", "road", "seen", "at", "hour", "light", "rain", "dry", "price", "when", "tithe", "or",
            "and", "not", "all", "wet", "unlike", "pass", "min", "max");

    static final class Fault extends RuntimeException {
        final int kind;
        final int place;

        Fault(int kind, int place) {
            this.kind = kind;
            this.place = place;
        }
    }

    /** A word, a number or a sign; the last one is empty. A glued one bears a blank, and fits nowhere. */
    private record Piece(String text, int place) {
        char first() {
            return text.isEmpty() ? 0 : text.charAt(0);
        }
    }

    final List<String> traits = new ArrayList<>();
    final List<int[]> shows = new ArrayList<>();
    final List<String> persons = new ArrayList<>();
    final List<int[]> looks = new ArrayList<>();
    final List<String> shades = new ArrayList<>();
    final List<Integer> fees = new ArrayList<>();
    final List<int[]> owns = new ArrayList<>();
    final List<int[]> fakes = new ArrayList<>();
    final List<String> places = new ArrayList<>();
    final List<int[]> roads = new ArrayList<>();
    final List<int[]> seen = new ArrayList<>();
    /** SUM and TEST in turn: what they give for a SHADE and a SIGHTING. */
    final List<ToIntBiFunction<Integer, Integer>> sums = new ArrayList<>();
    final List<ToIntBiFunction<Integer, Integer>> rules = new ArrayList<>();
    int tithe;
    int statements;

    private final List<Piece> pieces = new ArrayList<>();
    private int at;

    NaiveGuild() {
    }

    NaiveGuild(String text) {
        cut(text);
        do {
            if (statements == 90) {
                throw new Fault(5, now().place);
            }
            statement();
            sign(';');
            statements++;
        } while (!now().text.isEmpty());
    }

    private void cut(String text) {
        int k = 0;
        boolean joined = false;
        while (k < text.length()) {
            int from = k;
            while (k < text.length() && kind(text.charAt(k)) == kind(text.charAt(from))
                    && (k == from || kind(text.charAt(from)) > 0)) {
                k++;
            }
            if (kind(text.charAt(from)) == 0) {
                joined = false;
                continue;
            }
            boolean isWord = kind(text.charAt(from)) == 1 || kind(text.charAt(from)) == 2;
            pieces.add(new Piece((joined && isWord ? " " : "") + text.substring(from, k), from));
            joined = isWord;
        }
        pieces.add(new Piece("", text.length()));
    }

    /** 0 blank, 1 letter, 2 digit, below 0 any sign (each one for itself). */
    private static int kind(char c) {
        return c == ' ' || c == '\n' ? 0 : c >= 'a' && c <= 'z' ? 1 : c >= '0' && c <= '9' ? 2 : -1;
    }

    private Piece now() {
        return pieces.get(at);
    }

    private Fault wrong() {
        return new Fault(1, now().place);
    }

    private void sign(char c) {
        if (now().first() != c) {
            throw wrong();
        }
        at++;
    }

    private void word(String word) {
        if (!now().text.equals(word)) {
            throw wrong();
        }
        at++;
    }

    private int number(int least, int most) {
        String digits = now().text;
        int place = now().place;
        if (kind(now().first()) != 2) {
            throw wrong();
        }
        if (digits.length() > 4) {
            throw new Fault(1, place + 4);
        }
        int value = Integer.parseInt(digits);
        if (value < least || value > most) {
            throw new Fault(2, place);
        }
        at++;
        return value;
    }

    private String name() {
        String letters = now().text;
        if (kind(now().first()) != 1 || OWN_WORDS.contains(letters)) {
            throw wrong();
        }
        if (letters.length() > 6) {
            throw new Fault(1, now().place + 6);
        }
        at++;
        return letters;
    }

    private String newName() {
        int place = now().place;
        String name = name();
        for (List<String> given : List.of(traits, persons, shades, places)) {
            if (given.contains(name)) {
                throw new Fault(3, place);
            }
        }
        return name;
    }

    private int known(List<String> given) {
        int place = now().place;
        int which = given.indexOf(name());
        if (which < 0) {
            throw new Fault(3, place);
        }
        return which;
    }

    private int[] forTraits(int most) {
        int[] row = new int[traits.size()];
        for (int k = 0; k < row.length; k++) {
            row[k] = number(0, most);
        }
        return row;
    }

    private void room(List<?> kind, int most) {
        if (kind.size() == most) {
            throw new Fault(5, now().place);
        }
        at++;
    }

    private void statement() {
        String first = now().text;
        if (first.equals("traits") != traits.isEmpty()) {
            throw wrong();
        }
        switch (first) {
            case "traits":
                do {
                    at++;
                    traits.add(newName());
                    shows.add(new int[] {number(0, 100), number(0, 100)});
                } while (now().text.equals(",") && traits.size() < 6);
                break;
            case "person":
                room(persons, 8);
                persons.add(newName());
                looks.add(forTraits(9));
                break;
            case "shade":
                room(shades, 5);
                shades.add(newName());
                word("fee");
                fees.add(number(1, 99));
                owns.add(forTraits(9));
                word("fakes");
                fakes.add(forTraits(1));
                break;
            case "place":
                room(places, 8);
                places.add(newName());
                break;
            case "road":
                room(roads, 20);
                int one = known(places);
                int place = now().place;
                int other = known(places);
                if (one == other) {
                    throw new Fault(3, place);
                }
                roads.add(new int[] {one, other, number(1, 9)});
                break;
            case "seen":
                room(seen, 24);
                sighting();
                break;
            case "price":
                room(rules, 6);
                ToIntBiFunction<Integer, Integer> sum = sum(0);
                word("when");
                rules.add(test(0));
                sums.add(sum);
                break;
            case "tithe":
                at++;
                tithe = number(0, 100);
                break;
            default:
                throw wrong();
        }
    }

    private void sighting() {
        int person = known(persons);
        word("at");
        int place = known(places);
        word("hour");
        int hour = number(0, 99);
        word("light");
        int light = number(0, 100);
        if (!now().text.equals("rain") && !now().text.equals("dry")) {
            throw wrong();
        }
        seen.add(new int[] {person, place, hour, light, now().text.equals("rain") ? 1 : 0});
        at++;
    }

    private void open(int open) {
        if (open == 6) {
            throw new Fault(4, now().place);
        }
        at++;
    }

    private ToIntBiFunction<Integer, Integer> test(int open) {
        ToIntBiFunction<Integer, Integer> left = both(open);
        while (now().text.equals("or")) {
            at++;
            ToIntBiFunction<Integer, Integer> one = left;
            ToIntBiFunction<Integer, Integer> other = both(open);
            left = (s, g) -> one.applyAsInt(s, g) == 1 || other.applyAsInt(s, g) == 1 ? 1 : 0;
        }
        return left;
    }

    private ToIntBiFunction<Integer, Integer> both(int open) {
        ToIntBiFunction<Integer, Integer> left = fact(open);
        while (now().text.equals("and")) {
            at++;
            ToIntBiFunction<Integer, Integer> one = left;
            ToIntBiFunction<Integer, Integer> other = fact(open);
            left = (s, g) -> one.applyAsInt(s, g) == 1 && other.applyAsInt(s, g) == 1 ? 1 : 0;
        }
        return left;
    }

    private ToIntBiFunction<Integer, Integer> fact(int open) {
        if (now().text.equals("not")) {
            open(open);
            ToIntBiFunction<Integer, Integer> fact = fact(open + 1);
            return (s, g) -> fact.applyAsInt(s, g) == 1 ? 0 : 1;
        }
        if (now().first() == '[') {
            open(open);
            ToIntBiFunction<Integer, Integer> test = test(open + 1);
            sign(']');
            return test;
        }
        if (now().text.equals("all")) {
            at++;
            return (s, g) -> 1;
        }
        ToIntBiFunction<Integer, Integer> one = sum(open);
        char sign = now().first();
        if (sign != '<' && sign != '>' && sign != '=') {
            throw wrong();
        }
        at++;
        ToIntBiFunction<Integer, Integer> other = sum(open);
        return (s, g) -> {
            int order = Integer.compare(one.applyAsInt(s, g), other.applyAsInt(s, g));
            return order == (sign == '<' ? -1 : sign == '>' ? 1 : 0) ? 1 : 0;
        };
    }

    private static int bounded(long value) {
        return (int) (value > 1000000 ? 1000000 : value < -1000000 ? -1000000 : value);
    }

    private ToIntBiFunction<Integer, Integer> sum(int open) {
        ToIntBiFunction<Integer, Integer> left = product(open);
        while (now().first() == '+' || now().first() == '-') {
            int by = now().first() == '+' ? 1 : -1;
            at++;
            ToIntBiFunction<Integer, Integer> one = left;
            ToIntBiFunction<Integer, Integer> other = product(open);
            left = (s, g) -> bounded(one.applyAsInt(s, g) + (long) by * other.applyAsInt(s, g));
        }
        return left;
    }

    private ToIntBiFunction<Integer, Integer> product(int open) {
        ToIntBiFunction<Integer, Integer> left = part(open);
        while (now().first() == '*' || now().first() == '/') {
            boolean isTimes = now().first() == '*';
            at++;
            ToIntBiFunction<Integer, Integer> one = left;
            ToIntBiFunction<Integer, Integer> other = part(open);
            left = (s, g) -> {
                long a = one.applyAsInt(s, g);
                long b = other.applyAsInt(s, g);
                return isTimes ? bounded(a * b) : b == 0 ? 0 : (int) Math.floor((double) a / b);
            };
        }
        return left;
    }

    private ToIntBiFunction<Integer, Integer> part(int open) {
        if (kind(now().first()) == 2) {
            int value = number(0, 9999);
            return (s, g) -> value;
        }
        if (now().first() == '(') {
            open(open);
            ToIntBiFunction<Integer, Integer> sum = sum(open + 1);
            sign(')');
            return sum;
        }
        String word = now().text;
        switch (word) {
            case "fee": at++; return (s, g) -> fees.get(s);
            case "hour": at++; return (s, g) -> seen.get(g)[2];
            case "light": at++; return (s, g) -> seen.get(g)[3];
            case "wet": at++; return (s, g) -> seen.get(g)[4];
            case "unlike": at++; return this::unlike;
            case "pass": at++; return this::pass;
            case "min":
            case "max":
                at++;
                if (now().first() != '(') {
                    throw wrong();
                }
                open(open);
                ToIntBiFunction<Integer, Integer> one = sum(open + 1);
                sign(',');
                ToIntBiFunction<Integer, Integer> other = sum(open + 1);
                sign(')');
                return (s, g) -> word.equals("min")
                        ? Math.min(one.applyAsInt(s, g), other.applyAsInt(s, g))
                        : Math.max(one.applyAsInt(s, g), other.applyAsInt(s, g));
            default: throw wrong();
        }
    }

    private int unlike(int shade, int sighting) {
        int count = 0;
        for (int k = 0; k < traits.size(); k++) {
            count += owns.get(shade)[k] != looks.get(seen.get(sighting)[0])[k] ? 1 : 0;
        }
        return count;
    }

    int pass(int shade, int sighting) {
        int[] row = seen.get(sighting);
        int pass = 1000;
        for (int k = 0; k < traits.size(); k++) {
            if (owns.get(shade)[k] != looks.get(row[0])[k] && fakes.get(shade)[k] == 0) {
                pass = pass * (10000 - shows.get(k)[row[4]] * row[3]) / 10000;
            }
        }
        return pass;
    }

    int price(int shade, int sighting) {
        for (int k = 0; k < rules.size(); k++) {
            if (rules.get(k).applyAsInt(shade, sighting) == 1) {
                return Math.min(999, Math.max(0, sums.get(k).applyAsInt(shade, sighting)));
            }
        }
        return fees.get(shade);
    }

    private final int[][] farKept = new int[8][];

    int far(int first, int second) {
        if (farKept[first] == null) {
            farKept[first] = new int[places.size()];
            for (int place = 0; place < places.size(); place++) {
                farKept[first][place] = reckonFar(first, place);
            }
        }
        return farKept[first][second];
    }

    /** By stretching all ways road by road until nothing gets shorter. */
    private int reckonFar(int first, int second) {
        int[] hours = new int[places.size()];
        java.util.Arrays.fill(hours, Integer.MAX_VALUE / 2);
        hours[first] = 0;
        for (int turn = 0; turn < places.size(); turn++) {
            for (int[] road : roads) {
                hours[road[0]] = Math.min(hours[road[0]], hours[road[1]] + road[2]);
                hours[road[1]] = Math.min(hours[road[1]], hours[road[0]] + road[2]);
            }
        }
        return hours[second] > 1000 ? -1 : hours[second];
    }

    boolean canBe(int place, int hour, int otherPlace, int otherHour) {
        int far = far(place, otherPlace);
        return far >= 0 && Math.abs(hour - otherHour) >= far;
    }

    boolean canBe(int one, int other) {
        int[] a = seen.get(one);
        int[] b = seen.get(other);
        return canBe(a[1], a[2], b[1], b[2]);
    }
}
