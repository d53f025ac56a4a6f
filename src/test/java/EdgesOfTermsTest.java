/** The edges of Terms II and III, up to whose body it was. */
public final class EdgesOfTermsTest {
    private static final Edges EDGES = new Edges("EdgesOfTermsTest");
    private static final String MAP = "traits t 10 10;person p 1;place a;place b;road a b 3;";

    public static void main(String[] args) {
        passes();
        prices();
        farPlaces();
        canBeAtTwo();
        oneHourOnePlace();
        hiredCanBe();
        othersAreByThePersons();
        chains();
        longestChains();
        fewestShades();
        mustBeAndHimself();
        crewsOfSeven();
        crewsThatCanBe();
        cheapestCrews();
        crowds();
        EDGES.end();
    }

    private static int pass(String traits, String person, String shade, String light) {
        String text = "traits " + traits + ";person p " + person + ";place x;shade s fee 1 " + shade
                + ";seen p at x hour 0 light " + light + ";";
        return Guilds.made(text).pass(0, 0);
    }

    private static void passes() {
        EDGES.says("PASS of a SHADE for a SIGHTING: 1000, and for each TRAIT, in order, in which its own is not the PERSON's"
                + " and it can't be another: that times (10000 - shows times light) / 10000, the greatest whole number not"
                + " above (shows: dry or in rain, as it was).");
        EDGES.due("like ones", pass("a 100 100", "1", "1 fakes 0", "100 dry"), 1000);
        EDGES.due("unlike, but it can", pass("a 100 100", "1", "2 fakes 1", "100 dry"), 1000);
        EDGES.due("unlike, and it can't", pass("a 100 100", "1", "2 fakes 0", "100 dry"), 0);
        EDGES.due("by light 99", pass("a 100 100", "1", "2 fakes 0", "99 dry"), 10);
        EDGES.due("by no light", pass("a 100 100", "1", "2 fakes 0", "0 dry"), 1000);
        EDGES.due("shows nothing", pass("a 0 0", "1", "2 fakes 0", "100 dry"), 1000);
        EDGES.due("the least that shows", pass("a 1 1", "1", "2 fakes 0", "1 dry"), 999);
        EDGES.due("dry", pass("a 100 0", "1", "2 fakes 0", "100 dry"), 0);
        EDGES.due("in rain", pass("a 100 0", "1", "2 fakes 0", "100 rain"), 1000);
        EDGES.due("dry", pass("a 0 100", "1", "2 fakes 0", "100 dry"), 1000);
        EDGES.due("in rain", pass("a 0 100", "1", "2 fakes 0", "100 rain"), 0);
        EDGES.due("in order", pass("a 1 1,b 20 20", "1 1", "2 2 fakes 0 0", "97 dry"), 797);
        EDGES.due("in order", pass("b 20 20,a 1 1", "1 1", "2 2 fakes 0 0", "97 dry"), 798);
        EDGES.due("the last alone", pass("a 1 1,b 20 20", "1 1", "1 2 fakes 0 0", "97 dry"), 806);
        EDGES.due("the first alone", pass("a 1 1,b 20 20", "1 1", "2 2 fakes 0 1", "97 dry"), 990);
        String six = "a 50 0,b 50 0,c 50 0,d 50 0,e 50 0,f 50 0";
        EDGES.due("six times half", pass(six, "1 1 1 1 1 1", "0 0 0 0 0 0 fakes 0 0 0 0 0 0", "100 dry"), 15);
    }

    private static int price(String rules) {
        return Guilds.made(MAP + "shade s fee 7 1 fakes 0;seen p at a hour 1 light 1 dry;" + rules).price(0, 0);
    }

    private static void prices() {
        EDGES.says("Its PRICE: the SUM of the first RULE whose TEST holds, 0 .. 999 (below is 0, above 999), else its fee.");
        EDGES.due("0", price("price 0 when all;"), 0);
        EDGES.due("-1", price("price 0-1 when all;"), 0);
        EDGES.due("-1000000", price("price 0-9999*9999 when all;"), 0);
        EDGES.due("998", price("price 998 when all;"), 998);
        EDGES.due("999", price("price 999 when all;"), 999);
        EDGES.due("1000", price("price 1000 when all;"), 999);
        EDGES.due("1000000", price("price 9999*9999 when all;"), 999);
        EDGES.due("the first that holds", price("price 1 when 1=2;price 2 when all;price 3 when all;"), 2);
        EDGES.due("the last that holds", price("price 1 when 1=2;price 2 when 1=2;price 3 when all;"), 3);
        EDGES.due("none holds", price("price 1 when 1=2;price 2 when not all;"), 7);
        EDGES.due("no RULE", price(""), 7);
    }

    private static void farPlaces() {
        EDGES.says("FAR are two PLACES: the fewest HOURS by ROADS from one to the other (none: they can't be reached).");
        HiredShades x = Guilds.made("traits t 1 1;place a;place b;place c;place d;place e;"
                + "road a b 9;road b c 4;road a c 4;road d e 1;");
        EDGES.due("through c", x.far(0, 1), 8);
        EDGES.due("through c, back", x.far(1, 0), 8);
        EDGES.due("by a ROAD", x.far(0, 2), 4);
        EDGES.due("not reached", x.far(0, 3), -1);
        EDGES.due("not reached", x.far(4, 2), -1);
        EDGES.due("d and e", x.far(3, 4), 1);
        HiredShades line = Guilds.made("traits t 1 1;place a;place b;place c;place d;place e;place f;place g;place h;"
                + "road a h 9;road h b 9;road b g 9;road g c 9;road c f 9;road f d 9;road d e 9;");
        EDGES.due("through all eight", line.far(0, 4), 63);
        EDGES.due("through all eight, back", line.far(4, 0), 63);
        HiredShades star = Guilds.made("traits t 1 1;place a;place b;place c;place d;road a b 1;road a c 2;road d a 4;");
        EDGES.due("through the first", star.far(1, 2), 3);
        EDGES.due("through the first", star.far(3, 1), 5);
        HiredShades ring = Guilds.made("traits t 1 1;place a;place b;place c;place d;"
                + "road a b 1;road b c 1;road c d 1;road d a 4;");
        EDGES.due("the other way round is fewer", ring.far(0, 3), 3);
    }

    private static void canBeAtTwo() {
        EDGES.says("A body CAN BE at two SIGHTINGS, if their HOURS are not fewer apart than their PLACES are FAR");
        HiredShades x = Sightings.seen("pa50 pc53 pc54 pc55 pc47 pc46 pc45 pd99 pd0 qc54 qa51");
        int[] want = {0, 1, 1, 0, 1, 1, 0, 0, 1, 1};
        for (int other = 1; other <= 10; other++) {
            EDGES.due("canBe(0, " + other + ")", x.canBe(0, other), want[other - 1]);
            EDGES.due("canBe(" + other + ", 0)", x.canBe(other, 0), want[other - 1]);
        }
        HiredShades ends = Sightings.seen("pa0 pa99 pd0 pd99 pc99 pc4 pc3");
        EDGES.due("0 and 99 in one PLACE", ends.canBe(0, 1), 1);
        EDGES.due("0 and 99, not reached", ends.canBe(0, 3), 0);
        EDGES.due("0 and 99, reached", ends.canBe(0, 4), 1);
        EDGES.due("0 and 4, 4 FAR", ends.canBe(0, 5), 1);
        EDGES.due("0 and 3, 4 FAR", ends.canBe(0, 6), 0);
    }

    private static void oneHourOnePlace() {
        EDGES.says("(in one HOUR only in one PLACE).");
        HiredShades x = Sightings.seen("pa5 pa5 pb5 qa5 pd5");
        EDGES.due("one HOUR, one PLACE", x.canBe(0, 1), 1);
        EDGES.due("one HOUR, two PLACES", x.canBe(0, 2), 0);
        EDGES.due("one HOUR, one PLACE, two PERSONS", x.canBe(0, 3), 1);
        EDGES.due("one HOUR, not reached", x.canBe(0, 4), 0);
    }

    private static void hiredCanBe() {
        EDGES.says("HIRED: a SIGHTING has a SHADE or none; all SIGHTINGS that a SHADE has it CAN BE at, two by two.");
        HiredShades x = Sightings.seen("pa5 pb6 pb7 pa9 qc9");
        EDGES.due("none at first", x.seen(0, 5), -1);
        EDGES.due("pa5", x.hire(0, 0), true);
        EDGES.due("pb6, an HOUR from pa5", x.hire(1, 0), false);
        EDGES.due("pb7, two from pa5", x.hire(2, 0), true);
        EDGES.due("qc9, two from pb7", x.hire(4, 0), true);
        EDGES.due("pa9 clashes with qc9 alone", x.hire(3, 0), false);
        EDGES.due("pa9 by another", x.hire(3, 1), true);
        EDGES.due("a SIGHTING has one", x.seen(3, 5), 1);
        EDGES.due("clashing ones by crew", Sightings.seen("pa5 pb6").crew(3, 0, 0), 0);
        EDGES.due("clashing ones by crew", Sightings.seen("pa5 pb6").crew(3, 0, 1), 1);
        EDGES.due("three clashing ones by two", Sightings.seen("pa5 pb6 pc5").crew(7, 0, -1), -1);
    }

    private static void othersAreByThePersons() {
        EDGES.says("Other SIGHTINGS are by the PERSONS themselves, whether they can be or not.");
        HiredShades x = Sightings.seen("pa5 pb5 pc5");
        EDGES.due("three in one HOUR", x.has(4), 3);
        EDGES.due("no SHADE's", x.has(7), 0);
        EDGES.due("their clash", x.clash(2), 102);
        EDGES.due("one by s", x.hire(0, 0), true);
        EDGES.due("two are left", x.clash(0), 102);
        EDGES.due("and by p again", x.hire(0, -1), true);
        EDGES.due("three in one HOUR", x.clash(0), 1);
    }

    private static void chain(HiredShades x, int person, int... want) {
        EDGES.due("chain(" + person + ", NONE)", x.chain(person, -1), want.length);
        for (int k = 0; k < want.length; k++) {
            EDGES.due("chain(" + person + ", " + k + ")", x.chain(person, k), want[k]);
        }
        EDGES.due("chain behind it", x.chain(person, want.length), -1);
    }

    private static void chains() {
        EDGES.says("A CHAIN of a PERSON: SIGHTINGS of it, no SHADE's, at all of which it CAN BE.");
        chain(Sightings.seen("pa5 qa5 pa6"), 0, 0, 2);
        chain(Sightings.seen("pa5 qa5 pa6"), 1, 1);
        chain(Sightings.seen("pa5 qa5 pa6"), 2);
        chain(Sightings.hired("pa5 qa5 pa6", 0), 0, 2);
        chain(Sightings.hired("pa5 qa5 pa6", 0, 0, 1), 0);
        chain(Sightings.hired("pa5 qa5 pa6", -1, 0), 1);
        // 1 goes with 0 and with 2, but 0 does not go with 2
        chain(Sightings.seen("pa5 pb7 pc7"), 0, 0, 1);
        chain(Sightings.seen("pa5 pa5 pa5"), 0, 0, 1, 2);
    }

    private static void longestChains() {
        EDGES.says("THE LONGEST has the most; of like ones by numbers the least first SIGHTING, then the least second one,"
                + " and so on.");
        chain(Sightings.seen("pd5 pa5 pa6"), 0, 1, 2);
        chain(Sightings.seen("pd5 pa5"), 0, 0);
        chain(Sightings.seen("pa5 pb5 pb6 pa6"), 0, 0, 3);
        chain(Sightings.seen("pb5 pa5 pa6 pb6"), 0, 0, 3);
        chain(Sightings.seen("pa5 pb6 pa6 pa9 pb9"), 0, 0, 2, 3);
        chain(Sightings.seen("pa5 pb9 pc9 pa9 pc13 pa13"), 0, 0, 1, 4);
        // by numbers, though told against the HOURS
        chain(Sightings.seen("pa9 pa5 pb8"), 0, 0, 1);
        chain(Sightings.seen("pa9 pb9 pb8 pa8"), 0, 0, 3);
        chain(Sightings.seen("pa9 pa7 pa5 pa3"), 0, 0, 1, 2, 3);
    }

    private static void fewestShades() {
        EDGES.says("THE FEWEST SHADES: its SIGHTINGS that no SHADE has, less those.");
        EDGES.due("of none", Sightings.seen("qa5").shades(0), 0);
        EDGES.due("of one", Sightings.seen("pa5").shades(0), 0);
        EDGES.due("of two that can be", Sightings.seen("pa5 pa6").shades(0), 0);
        EDGES.due("of two that can't", Sightings.seen("pa5 pb6").shades(0), 1);
        EDGES.due("of three in one HOUR", Sightings.seen("pa5 pb5 pc5").shades(0), 2);
        EDGES.due("one is a SHADE's", Sightings.hired("pa5 pb5 pc5", 0).shades(0), 1);
        EDGES.due("two are SHADES'", Sightings.hired("pa5 pb5 pc5", 0, 1).shades(0), 0);
        EDGES.due("another PERSON's count for nothing", Sightings.seen("pa5 qb5").shades(0), 0);
    }

    private static void must(HiredShades x, int... want) {
        for (int sighting = 0; sighting < want.length; sighting++) {
            EDGES.due("must(" + sighting + ")", x.must(sighting), want[sighting]);
        }
    }

    private static void mustBeAndHimself() {
        EDGES.says("MUST BE a SHADE's is a SIGHTING that is in no LONGEST CHAIN; HIMSELF is one that is in all.");
        must(Sightings.seen("pa5"), 2);
        must(Sightings.seen("pa5 pb5"), 1, 1);
        must(Sightings.seen("pa5 pa6 pb6"), 2, 2, 0);
        must(Sightings.seen("pa5 pa7 pb7"), 2, 1, 1);
        must(Sightings.seen("pa5 pa6 pb5 pa7"), 2, 2, 0, 2);
        must(Sightings.seen("pa5 qb5"), 2, 2);
        must(Sightings.seen("pa5 pb6 pa6 pb9 pd50"), 2, 0, 2, 2, 0);
        must(Sightings.hired("pa5 pa7 pb7", -1, 0), 2, -1, 2);
        must(Sightings.hired("pa5 pa6 pb6", -1, 0), 1, -1, 1);
        must(Sightings.hired("pa5 pa6 pb6", 0), -1, 1, 1);
        must(Sightings.hired("pa5 pa6 pb6", 0, 0), -1, -1, 2);
    }

    private static void crewsOfSeven() {
        EDGES.says("A CREW for SIGHTINGS (bits, 7 at most that no SHADE has): a SHADE for each, with PASS not below so much,");
        HiredShades x = Sightings.seen("pa1 pa2 pa3 pa4 pa5 pa6 pa7 pa8 pa9");
        EDGES.due("crew of six", x.crew(63, 0, -1), 18);
        EDGES.due("crew of seven", x.crew(127, 0, -1), 21);
        EDGES.due("the seventh's SHADE", x.crew(127, 0, 6), 0);
        EDGES.due("crew of the last seven", x.crew(508, 0, -1), 21);
        EDGES.due("crew of eight", x.crew(255, 0, -1), -1);
        EDGES.due("crew of eight others", x.crew(510, 0, -1), -1);
        EDGES.due("a SHADE has the first", x.hire(0, 1), true);
        EDGES.due("crew of seven, one of them HIRED", x.crew(127, 0, -1), -1);
        EDGES.due("crew of the HIRED one", x.crew(1, 0, -1), -1);
        EDGES.due("crew of eight, one of them HIRED", x.crew(255, 0, -1), -1);
        EDGES.due("crew of seven others", x.crew(254, 0, -1), 21);
        EDGES.due("crew of eight others", x.crew(510, 0, -1), -1);
        // PASS: 1000 * (10000 - 10 * 50) / 10000 = 950
        HiredShades y = Guilds.made(MAP + "shade s fee 1 2 fakes 0;shade u fee 9 1 fakes 0;" + Sightings.text("pa1"));
        EDGES.due("PASS 950 by 950", y.crew(1, 950, -1), 1);
        EDGES.due("PASS 950 by 951", y.crew(1, 951, -1), 9);
        EDGES.due("PASS 1000 by 1000", y.crew(1, 1000, 0), 1);
        EDGES.due("PASS 1000 by 1001", y.crew(1, 1001, -1), -1);
    }

    private static void crewsThatCanBe() {
        EDGES.says("so that each CAN BE at all it has then (what it is HIRED for, too);");
        EDGES.due("an HOUR apart: s and u", Sightings.seen("pa5 pb6").crew(3, 0, -1), 8);
        EDGES.due("two HOURS apart: s twice", Sightings.seen("pa5 pb7").crew(3, 0, -1), 6);
        EDGES.due("s is HIRED an HOUR apart", Sightings.hired("pa5 pb6", 0).crew(2, 0, -1), 5);
        EDGES.due("s is HIRED two HOURS apart", Sightings.hired("pa5 pb7", 0).crew(2, 0, -1), 3);
        EDGES.due("both are HIRED an HOUR apart", Sightings.hired("pa5 pa5 pb6", 0, 1).crew(4, 0, -1), -1);
        EDGES.due("u is HIRED: s twice is not", Sightings.hired("pa5 pb6 pb5 pa6", 1).crew(6, 0, -1), 6);
        EDGES.due("u is HIRED, s once", Sightings.hired("pa5 pb6 pa6", 1).crew(6, 0, 1), 1);
    }

    private static void crew(HiredShades x, int sightings, int price, int... shades) {
        EDGES.due("crew(" + sightings + ", 0, NONE)", x.crew(sightings, 0, -1), price);
        for (int k = 0; k < shades.length; k++) {
            EDGES.due("crew(" + sightings + ", 0, " + k + ")", x.crew(sightings, 0, k), shades[k]);
        }
    }

    private static void cheapestCrews() {
        EDGES.says("of least PRICE together, of like ones the first (by the first SIGHTING's SHADE, and so on).");
        crew(Sightings.seen("pa5"), 1, 3, 0);
        crew(Sightings.seen("pa5 pb5"), 3, 8, 0, 1);
        // the dear one must have one of them, where it costs less
        String rules = "price fee*9 when hour=5 and fee=5;";
        HiredShades x = Guilds.made(Sightings.AHEAD + Sightings.text("pa5 pb6") + rules);
        crew(x, 3, 8, 0, 1);
        Guilds.tell(x, Sightings.AHEAD + Sightings.text("pb6 pa5") + rules);
        crew(x, 3, 8, 1, 0);
        // all PRICES are like: the first SHADE for the first SIGHTING
        Guilds.tell(x, Sightings.AHEAD + Sightings.text("pa5 pb5 pa6 pb6") + "price 7 when all;");
        crew(x, 15, 28, 0, 1, 0, 1);
        crew(x, 14, 21, 0, 1, 0);
        crew(x, 6, 14, 0, 1);
        // the first SIGHTING's SHADE counts ahead of the second's
        Guilds.tell(x, Sightings.AHEAD + Sightings.text("pa5 pa5 pb6") + "price 7 when all;");
        crew(x, 7, 21, 0, 0, 1);
        crew(Sightings.seen("pa5 pb5 pa5 pb5 pa5 pb5 pa5"), 127, 27, 0, 1, 0, 1, 0, 1, 0);
        crew(Sightings.seen("pb5 pa5 pb5 pa5 pa5 pb5 pa5"), 127, 27, 1, 0, 1, 0, 0, 1, 0);
    }

    private static void crowds() {
        EDGES.says("A CROWD of n in a PLACE at an HOUR: the n SHADES that CAN BE there besides all that they are HIRED for,"
                + " with the least fees, of like ones the first; fees together.");
        String five = MAP + "shade s fee 9 1 fakes 0;shade u fee 4 1 fakes 0;shade v fee 9 1 fakes 0;"
                + "shade w fee 4 1 fakes 0;shade x fee 1 1 fakes 0;" + Sightings.text("pa10") + "price 500 when all;";
        HiredShades x = Guilds.made(five);
        int[] order = {4, 1, 3, 0, 2};
        int[] fees = {1, 5, 9, 18, 27};
        for (int n = 1; n <= 5; n++) {
            EDGES.due("fees of " + n, x.crowd(0, 10, n, -1), fees[n - 1]);
            for (int k = 0; k < n; k++) {
                EDGES.due("the k-th of " + n, x.crowd(0, 10, n, k), order[k]);
            }
        }
        EDGES.due("x is HIRED", x.hire(0, 4), true);
        EDGES.due("three HOURS apart, 3 FAR", x.crowd(1, 13, 1, 0), 4);
        EDGES.due("two HOURS apart, 3 FAR", x.crowd(1, 12, 1, 0), 1);
        EDGES.due("three HOURS ahead, 3 FAR", x.crowd(1, 7, 1, 0), 4);
        EDGES.due("two HOURS ahead, 3 FAR", x.crowd(1, 8, 1, 0), 1);
        EDGES.due("in the same PLACE and HOUR", x.crowd(0, 10, 5, -1), 27);
        EDGES.due("four are left", x.crowd(1, 12, 4, -1), 26);
        EDGES.due("not five", x.crowd(1, 12, 5, -1), -1);
    }
}
