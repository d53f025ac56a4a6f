import java.util.ArrayList;
import java.util.List;
import java.util.Random;

/** Guilds' texts by chance: mostly right ones, or such with a few bytes or words spoilt. */
final class RandomTexts {
    private static final String[] WORDS = {"traits", "person", "shade", "fee", "fakes", "place", "road",
        "seen", "at", "hour", "light", "rain", "dry", "price", "when", "tithe", "or", "and", "not", "all",
        "wet", "unlike", "pass", "min", "max", "(", ")", "[", "]", ",", ";", "+", "-", "*", "/", "<", ">",
        "=", "0", "7", "10", "99", "100", "101", "9999", "12345", "00001", "abcdefg", "unlikes", "zz", "A",
        "\t", "a1", "1a", "\n", " "};

    private final Random random;
    private final List<String> pieces = new ArrayList<>();
    private final List<String> names = new ArrayList<>();
    private final List<String> persons = new ArrayList<>();
    private final List<String> places = new ArrayList<>();
    private int traitCount;
    private int shadeCount;
    private int roadCount;
    private int ruleCount;
    private int seenCount;
    private int mostSeen;
    private int mostHour;

    private RandomTexts(Random random) {
        this.random = random;
    }

    static String right(Random random) {
        RandomTexts it = new RandomTexts(random);
        it.fill();
        return it.joined();
    }

    static String spoilt(Random random) {
        RandomTexts it = new RandomTexts(random);
        it.fill();
        for (int n = 1 + random.nextInt(2); n > 0; n--) {
            it.spoilPiece();
        }
        StringBuilder text = new StringBuilder(it.joined());
        for (int n = random.nextInt(3); n > 0 && text.length() > 0; n--) {
            it.spoilByte(text);
        }
        return text.length() > 1600 ? text.substring(0, 1600) : text.toString();
    }

    private void spoilPiece() {
        int at = random.nextInt(pieces.size());
        String word = WORDS[random.nextInt(WORDS.length)];
        switch (random.nextInt(4)) {
            case 0: pieces.set(at, word); break;
            case 1: pieces.add(at, word); break;
            case 2: pieces.remove(at); break;
            default: pieces.set(at, pieces.get(random.nextInt(pieces.size()))); break;
        }
        if (pieces.isEmpty()) {
            pieces.add(";");
        }
    }

    private void spoilByte(StringBuilder text) {
        int at = random.nextInt(text.length());
        switch (random.nextInt(4)) {
            case 0: text.setCharAt(at, (char) random.nextInt(256)); break;
            case 1: text.deleteCharAt(at); break;
            case 2: text.insert(at, " abz059;,([\n".charAt(random.nextInt(12))); break;
            default: text.setLength(at); break;
        }
    }

    private void fill() {
        mostSeen = random.nextInt(4) == 0 ? 24 : 3 + random.nextInt(10);
        mostHour = new int[] {3, 8, 20, 100}[random.nextInt(4)];
        put("traits");
        do {
            put(traitCount == 0 ? "" : ",", newName(), number(101), number(101));
            traitCount++;
        } while (traitCount < 6 && random.nextInt(3) > 0);
        put(";");
        int count = random.nextInt(10) == 0 ? 89 : 10 + random.nextInt(50);
        for (int n = 1; n < count && lengthSoFar() < 1300; n++) {
            statement();
            put(";");
        }
    }

    private int lengthSoFar() {
        int length = 0;
        for (String piece : pieces) {
            length += piece.length() + 1;
        }
        return length;
    }

    private void statement() {
        int what = random.nextInt(12);
        if (what == 0 && persons.size() < 8) {
            String name = newName();
            put("person", name);
            forTraits(3);
            persons.add(name);
        } else if (what <= 2 && shadeCount < 5) {
            put("shade", newName(), "fee", Integer.toString(1 + random.nextInt(random.nextBoolean() ? 3 : 99)));
            forTraits(3);
            put("fakes");
            forTraits(2);
            shadeCount++;
        } else if (what == 3 && places.size() < 8) {
            String name = newName();
            put("place", name);
            places.add(name);
        } else if (what <= 5 && places.size() > 1 && roadCount < 20) {
            int one = random.nextInt(places.size());
            int other = (one + 1 + random.nextInt(places.size() - 1)) % places.size();
            put("road", places.get(one), places.get(other), Integer.toString(1 + random.nextInt(9)));
            roadCount++;
        } else if (what == 6 && ruleCount < 6) {
            put("price");
            sum(0);
            put("when");
            test(0);
            ruleCount++;
        } else if (what > 6 && !persons.isEmpty() && !places.isEmpty() && seenCount < mostSeen) {
            put("seen", any(persons), "at", any(places), "hour", number(mostHour), "light", number(101),
                    random.nextBoolean() ? "rain" : "dry");
            seenCount++;
        } else if (what == 11 || persons.size() == 8) {
            put("tithe", number(101));
        } else if (persons.size() < 8) {
            String name = newName();
            put("person", name);
            forTraits(10);
            persons.add(name);
        }
    }

    private void test(int open) {
        fact(open);
        while (random.nextInt(3) == 0) {
            put(random.nextBoolean() ? "or" : "and");
            fact(open);
        }
    }

    private void fact(int open) {
        int what = random.nextInt(6);
        if (what == 0 && open < 6) {
            put("not");
            fact(open + 1);
        } else if (what == 1 && open < 6) {
            put("[");
            test(open + 1);
            put("]");
        } else if (what == 2) {
            put("all");
        } else {
            sum(open);
            put("" + "<>=".charAt(random.nextInt(3)));
            sum(open);
        }
    }

    private void sum(int open) {
        part(open);
        while (random.nextInt(3) == 0) {
            put("" + "+-*/".charAt(random.nextInt(4)));
            part(open);
        }
    }

    private void part(int open) {
        int what = random.nextInt(12);
        if (what == 0 && open < 6) {
            put("(");
            sum(open + 1);
            put(")");
        } else if (what == 1 && open < 6) {
            put(random.nextBoolean() ? "min" : "max", "(");
            sum(open + 1);
            put(",");
            sum(open + 1);
            put(")");
        } else if (what < 5) {
            put(number(random.nextBoolean() ? 10 : 10000));
        } else {
            put(new String[] {"fee", "hour", "light", "wet", "unlike", "pass"}[random.nextInt(6)]);
        }
    }

    private void forTraits(int below) {
        for (int n = 0; n < traitCount; n++) {
            put(number(below));
        }
    }

    private String number(int below) {
        return Integer.toString(random.nextInt(below));
    }

    private String any(List<String> of) {
        return of.get(random.nextInt(of.size()));
    }

    private String newName() {
        String name;
        do {
            StringBuilder letters = new StringBuilder();
            for (int n = 1 + random.nextInt(random.nextInt(4) == 0 ? 6 : 2); n > 0; n--) {
                letters.append((char) ('a' + random.nextInt(26)));
            }
            name = letters.toString();
        } while (names.contains(name) || List.of(WORDS).contains(name));
        names.add(name);
        return name;
    }

    private void put(String... some) {
        for (String piece : some) {
            if (!piece.isEmpty()) {
                pieces.add(piece);
            }
        }
    }

    private String joined() {
        StringBuilder text = new StringBuilder();
        for (String piece : pieces) {
            boolean needs = text.length() > 0 && Character.isLetterOrDigit(text.charAt(text.length() - 1))
                    && Character.isLetterOrDigit(piece.charAt(0));
            if (needs || random.nextInt(8) == 0) {
                text.append(random.nextInt(6) == 0 ? '\n' : ' ');
            }
            text.append(piece);
        }
        return text.toString();
    }
}
