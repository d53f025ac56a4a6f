/** The edges of Terms I: what each STATEMENT may hold, how many there are of a kind, and NAMES. */
public final class EdgesOfStatementsTest {
    private static final Edges EDGES = new Edges("EdgesOfStatementsTest");
    private static final String ONE = "traits t 1 1;";
    private static final String TWO = "traits t 1 1,u 1 1;";
    private static final String MAP = ONE + "place x;place y;place z;";
    private static final String[] OWN_WORDS = ("traits person shade fee fakes place road seen at hour light rain dry "
            + "price when tithe or and not all wet unlike pass min max").split(" ");

    public static void main(String[] args) {
        ninetyStatements();
        oneToSixTraits();
        showsOfHundred();
        traitsFirstAndAlone();
        personsOfTraits();
        eightPersons();
        feesOfShades();
        traitsOfShades();
        fiveShades();
        eightPlaces();
        roadsOfUnlikePlaces();
        shortestOfTwoRoads();
        twentyRoads();
        sightings();
        twentyFourSightings();
        sixRules();
        tithes();
        namesOfSixLetters();
        namesAreNoOwnWords();
        namesAreUnlike();
        namesAreToldAhead();
        EDGES.end();
    }

    /** Some STATEMENTS, # standing for the letter of each. */
    private static String some(String statement, int n) {
        StringBuilder text = new StringBuilder();
        for (int k = 0; k < n; k++) {
            text.append(statement.replace('#', (char) ('a' + k)));
        }
        return text.toString();
    }

    private static HiredShades has(String text, int what, int want) {
        HiredShades x = Guilds.made(text);
        EDGES.due("has(" + what + ") of <" + text + ">", x.has(what), want);
        return x;
    }

    private static void ninetyStatements() {
        EDGES.says("A GUILD is a text: { STATEMENT ; } (90 at most)");
        EDGES.guild(new HiredShades(), ONE, 1);
        EDGES.guild(new HiredShades(), ONE + "tithe 1;".repeat(88), 89);
        EDGES.guild(new HiredShades(), ONE + "tithe 1;".repeat(89), 90);
        EDGES.marked(ONE + "tithe 1;".repeat(89) + "^tithe 1;", 5);
        EDGES.marked(ONE + "tithe 1;".repeat(88) + "tithe 1^", 1);
    }

    private static void oneToSixTraits() {
        EDGES.says("traits NAME N N { , NAME N N } (1 to 6 TRAITS");
        EDGES.marked("traits ^;", 1);
        has("traits a 1 1;", 0, 1);
        has("traits a 1 1,b 1 1;", 0, 2);
        has("traits a 1 1,b 1 1,c 1 1,d 1 1,e 1 1;", 0, 5);
        HiredShades x = has("traits a 1 1,b 1 1,c 1 1,d 1 1,e 1 1,f 5 6;", 0, 6);
        EDGES.due("the sixth in rain", x.trait(5, -1, 1), 6);
        EDGES.due("no seventh", x.trait(6, -1, 1), -1);
        EDGES.marked("traits a 1 1,b 1 1,c 1 1,d 1 1,e 1 1,f 1 1^,g 1 1;", 1);
    }

    private static void showsOfHundred() {
        EDGES.says(": how much of 100 it shows, dry and in rain, 0 .. 100 both");
        HiredShades x = Guilds.made("traits a 0 100,b 100 0;");
        EDGES.due("a dry", x.trait(0, -1, 0), 0);
        EDGES.due("a in rain", x.trait(0, -1, 1), 100);
        EDGES.due("b dry", x.trait(1, -1, 0), 100);
        EDGES.due("b in rain", x.trait(1, -1, 1), 0);
        EDGES.marked("traits a ^101 0;", 2);
        EDGES.marked("traits a 0 ^101;", 2);
        EDGES.marked("traits a ^9999 0;", 2);
        EDGES.marked("traits a ^-1 0;", 1);
        EDGES.marked("traits a 1 1,b 1 1,c 1 1,d 1 1,e 1 1,f ^101 1;", 2);
        EDGES.marked("traits a 1 1,b 1 1,c 1 1,d 1 1,e 1 1,f 1 ^101;", 2);
    }

    private static void traitsFirstAndAlone() {
        EDGES.says("; the first STATEMENT, and it alone)");
        for (String word : new String[] {"person", "shade", "place", "road", "seen", "price", "tithe"}) {
            EDGES.marked("^" + word + " a 1;", 1);
            EDGES.marked("\n ^" + word + ";", 1);
        }
        EDGES.marked(ONE + "^traits u 1 1;", 1);
        EDGES.marked(ONE + "tithe 1;^traits u 1 1;", 1);
        EDGES.marked(ONE + "tithe 1;".repeat(88) + "^traits u 1 1;", 1);
    }

    private static void personsOfTraits() {
        EDGES.says("person NAME N .. N (0 .. 9 for each TRAIT;");
        HiredShades x = Guilds.made(TWO + "person p 0 9;person q 9 0;");
        int[][] want = {{0, 9}, {9, 0}};
        for (int person = 0; person < 2; person++) {
            for (int trait = 0; trait < 2; trait++) {
                EDGES.due("trait(" + trait + ", " + person + ", 2)", x.trait(trait, person, 2), want[person][trait]);
            }
        }
        EDGES.marked(TWO + "person p ^10 0;", 2);
        EDGES.marked(TWO + "person p 0 ^10;", 2);
        EDGES.marked(TWO + "person p ^;", 1);
        EDGES.marked(TWO + "person p 0^;", 1);
        EDGES.marked(TWO + "person p 0 0 ^0;", 1);
        EDGES.marked(ONE + "person p 0 ^0;", 1);
        String six = "traits a 1 1,b 1 1,c 1 1,d 1 1,e 1 1,f 1 1;person p 1 2 3 4 5";
        EDGES.due("the sixth", Guilds.made(six + " 6;").trait(5, 0, 2), 6);
        EDGES.marked(six + "^;", 1);
        EDGES.marked(six + " ^10;", 2);
        EDGES.marked(six + " 6 ^7;", 1);
    }

    private static void eightPersons() {
        EDGES.says("8 PERSONS)");
        String seven = ONE + some("person p# 1;", 7);
        has(seven, 1, 7);
        HiredShades x = has(seven + "person z 5;", 1, 8);
        EDGES.due("the eighth", x.letter(1, 7, 0), 26);
        EDGES.due("what the eighth has", x.trait(0, 7, 2), 5);
        EDGES.marked(seven + "person z 5;^person y 1;", 5);
        EDGES.due("an eighth and others", Guilds.tell(x, seven + "person z 5;place y;tithe 1;"), 11);
    }

    private static HiredShades withFee(int fee) {
        return Guilds.made(MAP + "shade s fee " + fee + " 1 fakes 1;");
    }

    private static void feesOfShades() {
        EDGES.says("shade NAME fee N N .. N fakes N .. N (1 .. 99;");
        EDGES.due("the fee 1", withFee(1).crowd(0, 0, 1, -1), 1);
        EDGES.due("the fee 99", withFee(99).crowd(0, 0, 1, -1), 99);
        EDGES.marked(ONE + "shade s fee ^0 1 fakes 1;", 2);
        EDGES.marked(ONE + "shade s fee ^100 1 fakes 1;", 2);
        EDGES.marked(ONE + "shade s fee ^-1 1 fakes 1;", 1);
    }

    private static void traitsOfShades() {
        EDGES.says("for each TRAIT its own 0 .. 9; whether it can be another there, 0 or 1;");
        HiredShades x = Guilds.made(TWO + "shade s fee 1 0 9 fakes 1 0;shade v fee 1 9 0 fakes 0 1;");
        int[][] owns = {{0, 9}, {9, 0}};
        int[][] fakes = {{1, 0}, {0, 1}};
        for (int shade = 0; shade < 2; shade++) {
            for (int trait = 0; trait < 2; trait++) {
                EDGES.due("trait(" + trait + ", " + shade + ", 3)", x.trait(trait, shade, 3), owns[shade][trait]);
                EDGES.due("trait(" + trait + ", " + shade + ", 4)", x.trait(trait, shade, 4), fakes[shade][trait]);
            }
        }
        EDGES.marked(TWO + "shade s fee 1 ^10 9 fakes 1 0;", 2);
        EDGES.marked(TWO + "shade s fee 1 0 ^10 fakes 1 0;", 2);
        EDGES.marked(TWO + "shade s fee 1 0 9 fakes ^2 0;", 2);
        EDGES.marked(TWO + "shade s fee 1 0 9 fakes 1 ^2;", 2);
        EDGES.marked(TWO + "shade s fee 1 ^fakes 1 0;", 1);
        EDGES.marked(TWO + "shade s fee 1 0 ^fakes 1 0;", 1);
        EDGES.marked(TWO + "shade s fee 1 0 9 ^9 fakes 1 0;", 1);
        EDGES.marked(TWO + "shade s fee 1 0 9 fakes^;", 1);
        EDGES.marked(TWO + "shade s fee 1 0 9 fakes 1^;", 1);
        EDGES.marked(TWO + "shade s fee 1 0 9 fakes 1 0 ^0;", 1);
    }

    private static void fiveShades() {
        EDGES.says("5 SHADES)");
        String four = ONE + some("shade s# fee 1 1 fakes 1;", 4);
        has(four, 2, 4);
        HiredShades x = has(four + "shade z fee 1 7 fakes 0;", 2, 5);
        EDGES.due("the fifth's own", x.trait(0, 4, 3), 7);
        EDGES.marked(four + "shade z fee 1 7 fakes 0;^shade y fee 1 1 fakes 1;", 5);
    }

    private static void eightPlaces() {
        EDGES.says("place NAME (8 PLACES)");
        String seven = ONE + some("place x#;", 7);
        has(seven, 3, 7);
        HiredShades x = has(seven + "place z;", 3, 8);
        EDGES.due("the eighth", x.letter(3, 7, 0), 26);
        EDGES.due("the eighth from itself", x.far(7, 7), 0);
        EDGES.marked(seven + "place z;^place y;", 5);
    }

    private static void roadsOfUnlikePlaces() {
        EDGES.says("road NAME NAME N (two unlike PLACES, 1 .. 9 HOURS;");
        HiredShades x = Guilds.made(MAP + "road x y 1;road y z 9;");
        EDGES.due("far by 1", x.far(0, 1), 1);
        EDGES.due("far by 9", x.far(1, 2), 9);
        EDGES.marked(MAP + "road x ^x 1;", 3);
        EDGES.marked(MAP + "road z ^z 1;", 3);
        EDGES.marked(MAP + "road x y ^0;", 2);
        EDGES.marked(MAP + "road x y ^10;", 2);
    }

    private static void shortestOfTwoRoads() {
        EDGES.says("of two the shortest counts;");
        String[] roads = {"road x y 3;road x y 5;", "road x y 5;road x y 3;", "road x y 3;road y x 5;",
            "road x y 5;road y x 3;", "road y x 3;road x y 5;", "road x y 9;road x y 3;road y x 9;"};
        for (String two : roads) {
            HiredShades x = Guilds.made(MAP + two);
            EDGES.due("far(0, 1) by " + two, x.far(0, 1), 3);
            EDGES.due("far(1, 0) by " + two, x.far(1, 0), 3);
        }
    }

    private static void twentyRoads() {
        EDGES.says("20 ROADS)");
        String nineteen = MAP + "road x y 9;".repeat(19);
        EDGES.guild(new HiredShades(), nineteen, 23);
        HiredShades x = Guilds.made(nineteen + "road y z 2;");
        EDGES.due("the twentieth counts", x.far(1, 2), 2);
        EDGES.marked(nineteen + "road y z 2;^road x z 1;", 5);
    }

    private static void sightings() {
        EDGES.says("seen NAME at NAME hour N light N rain, or seen NAME at NAME hour N light N dry (a PERSON, a PLACE,"
                + " HOUR 0 .. 99, 0 .. 100;");
        String ahead = MAP + "person p 1;shade s fee 1 1 fakes 1;";
        HiredShades x = Guilds.made(ahead + "seen p at x hour 0 light 0 rain;seen p at z hour 99 light 100 dry;");
        int[][] want = {{0, 0, 0, 0, 1}, {0, 2, 99, 100, 0}};
        for (int sighting = 0; sighting < 2; sighting++) {
            for (int what = 0; what < 5; what++) {
                EDGES.due("seen(" + sighting + ", " + what + ")", x.seen(sighting, what), want[sighting][what]);
            }
        }
        EDGES.marked(ahead + "seen p at x hour ^100 light 0 dry;", 2);
        EDGES.marked(ahead + "seen p at x hour 0 light ^101 dry;", 2);
        EDGES.marked(ahead + "seen p at x hour ^100 light 0 rain;", 2);
        EDGES.marked(ahead + "seen p at x hour 0 light ^101 rain;", 2);
        EDGES.marked(ahead + "seen p at x hour 0 light 0 ^wet;", 1);
        EDGES.marked(ahead + "seen p at x hour 0 light 0^;", 1);
        EDGES.marked(ahead + "seen p at x hour 0 light 0 dry ^rain;", 1);
        for (String none : new String[] {"t", "s", "x", "nobody"}) {
            EDGES.marked(ahead + "seen ^" + none + " at x hour 0 light 0 dry;", 3);
        }
        for (String none : new String[] {"t", "s", "p", "where"}) {
            EDGES.marked(ahead + "seen p at ^" + none + " hour 0 light 0 dry;", 3);
        }
    }

    private static void twentyFourSightings() {
        EDGES.says("24 SIGHTINGS)");
        String most = ONE + "person p 1;place x;" + "seen p at x hour 1 light 1 dry;".repeat(23);
        has(most, 4, 23);
        HiredShades x = has(most + "seen p at x hour 7 light 1 dry;", 4, 24);
        EDGES.due("the last one's HOUR", x.seen(23, 2), 7);
        EDGES.due("no 25th", x.seen(24, 2), -1);
        EDGES.marked(most + "seen p at x hour 7 light 1 dry;^seen p at x hour 1 light 1 dry;", 5);
    }

    private static void sixRules() {
        EDGES.says("price SUM when TEST (6 RULES)");
        String ahead = ONE + "person p 1;place x;seen p at x hour 1 light 1 dry;shade s fee 1 1 fakes 1;";
        has(ahead + "price 4 when 1=2;".repeat(5), 5, 5);
        HiredShades x = has(ahead + "price 4 when 1=2;".repeat(5) + "price 44 when all;", 5, 6);
        EDGES.due("by the sixth RULE", x.price(0, 0), 44);
        EDGES.due("by none of six", Guilds.made(ahead + "price 4 when 1=2;".repeat(6)).price(0, 0), 1);
        EDGES.marked(ahead + "price 4 when 1=2;".repeat(6) + "^price 4 when all;", 5);
    }

    private static void tithes() {
        EDGES.says("tithe N (0 .. 100; the last one counts; 0 without).");
        has(ONE + "tithe 0;", 6, 0);
        HiredShades x = has(ONE + "tithe 100;", 6, 100);
        EDGES.marked(ONE + "tithe ^101;", 2);
        EDGES.marked(ONE + "tithe 100;tithe ^101;", 2);
        has(ONE + "tithe 7;tithe 9;", 6, 9);
        has(ONE + "tithe 9;place x;tithe 7;tithe 0;", 6, 0);
        has(ONE, 6, 0);
        EDGES.due("another GUILD without", Guilds.tell(x, ONE), 1);
        EDGES.due("has(6)", x.has(6), 0);
    }

    private static void namesOfSixLetters() {
        EDGES.says("NAMES: 1 to 6 letters,");
        HiredShades x = Guilds.made("traits a 1 1,azazaz 1 1;person z 1 1;place zzzzzz;");
        int[] want = {1, 26, 1, 26, 1, 26};
        for (int k = 0; k < 6; k++) {
            EDGES.due("letter " + k + " of azazaz", x.letter(0, 1, k), want[k]);
            EDGES.due("letter " + k + " of a", x.letter(0, 0, k), k == 0 ? 1 : 0);
            EDGES.due("letter " + k + " of z", x.letter(1, 0, k), k == 0 ? 26 : 0);
            EDGES.due("letter " + k + " of zzzzzz", x.letter(3, 0, k), 26);
        }
        EDGES.marked("traits ^1 1;", 1);
        EDGES.marked("traits azazaz^a 1 1;", 1);
        for (String sign : new String[] {"`", "{", "@", "A", "Z", "[", "_", "\u00e1", "\u00fa"}) {
            EDGES.marked("traits ^" + sign + " 1 1;", 1);
            EDGES.marked("traits a^" + sign + " 1 1;", 1);
        }
    }

    private static boolean isOwnWord(String word) {
        for (String own : OWN_WORDS) {
            if (own.equals(word)) {
                return true;
            }
        }
        return false;
    }

    private static void namesAreNoOwnWords() {
        EDGES.says("no OWN WORD,");
        for (String own : OWN_WORDS) {
            EDGES.marked("traits ^" + own + " 1 1;", 1);
            EDGES.marked("traits a 1 1,^" + own + " 1 1;", 1);
            EDGES.marked(ONE + "person ^" + own + " 1;", 1);
            EDGES.marked(ONE + "shade ^" + own + " fee 1 1 fakes 1;", 1);
            EDGES.marked(ONE + "place ^" + own + ";", 1);
            EDGES.marked(MAP + "road ^" + own + " x 1;", 1);
            EDGES.marked(MAP + "road x ^" + own + " 1;", 1);
            EDGES.marked(MAP + "person p 1;seen ^" + own + " at x hour 1 light 1 dry;", 1);
            EDGES.marked(MAP + "person p 1;seen p at ^" + own + " hour 1 light 1 dry;", 1);
        }
        EDGES.says("OWN WORDS: traits, person, shade, fee, fakes, place, road, seen, at, hour, light, rain, dry, price,"
                + " when, tithe, or, and, not, all, wet, unlike, pass, min, max.");
        for (String own : OWN_WORDS) {
            for (String near : new String[] {own.substring(1), own.substring(0, own.length() - 1), own + "x", "x" + own}) {
                if (near.length() <= 6 && !isOwnWord(near)) {
                    EDGES.guild(new HiredShades(), "traits " + near + " 1 1;", 1);
                }
            }
        }
    }

    private static void namesAreUnlike() {
        EDGES.says("unlike ones (of all sorts),");
        String[] given = {"traits n 1 1;", ONE + "person n 1;", ONE + "shade n fee 1 1 fakes 1;", ONE + "place n;"};
        String[] again = {"person # 1;", "shade # fee 1 1 fakes 1;", "place #;"};
        EDGES.marked("traits n 1 1,^n 1 1;", 3);
        EDGES.marked("traits a 1 1,n 1 1,b 1 1,^n 1 1;", 3);
        for (String first : given) {
            for (String second : again) {
                EDGES.marked(first + second.replace("#", "^n"), 3);
                EDGES.marked(first + "place m;" + second.replace("#", "^n"), 3);
                EDGES.guild(new HiredShades(), first + second.replace("#", "nn"), first.startsWith("traits n") ? 2 : 3);
            }
        }
        EDGES.guild(new HiredShades(), "traits abcdef 1 1,abcdeg 1 1,abcde 1 1,bcdef 1 1;", 1);
    }

    private static void namesAreToldAhead() {
        EDGES.says("told ahead of where they are asked.");
        String person = "person p 1;";
        String seen = "seen p at x hour 1 light 1 dry;";
        EDGES.guild(new HiredShades(), ONE + person + "place x;" + seen, 4);
        EDGES.guild(new HiredShades(), ONE + "place x;" + person + seen, 4);
        EDGES.marked(ONE + "place x;" + seen.replace("p at", "^p at") + person, 3);
        EDGES.marked(ONE + person + seen.replace("x hour", "^x hour") + "place x;", 3);
        EDGES.marked(ONE + "road ^x y 1;place x;place y;", 3);
        EDGES.marked(ONE + "place y;road ^x y 1;place x;", 3);
        EDGES.marked(ONE + "place x;road x ^y 1;place y;", 3);
        EDGES.guild(new HiredShades(), ONE + "place x;place y;road x y 1;", 4);
        HiredShades x = Guilds.made(ONE + person + "place x;place y;");
        EDGES.faulty(x, ONE + "road x y 1;", 3, 18);
    }
}
