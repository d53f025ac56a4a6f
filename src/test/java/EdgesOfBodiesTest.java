/** The edges of Terms III: whose body it was, ALL TRUE, COULD BE, DRAWS, DAYS, IMAGES. */
public final class EdgesOfBodiesTest {
    private static final Edges EDGES = new Edges("EdgesOfBodiesTest");
    /** The SHADE s with a PASS that is told by shows and light, PRICE 77. */
    private static final String AHEAD = "person p 1;place a;shade s fee 77 2 fakes 0;";

    public static void main(String[] args) {
        personsWeigh();
        shadesWeigh();
        oddsAreRoundedDown();
        allTrue();
        allTrueOfEight();
        couldBe();
        draws();
        daysBySightings();
        foundOutByPass();
        whatTheGuildGets();
        imagesOfSightings();
        imagesThatAreTaken();
        EDGES.end();
    }

    private static void whose(HiredShades x, int sighting, int... want) {
        for (int k = 0; k < want.length; k++) {
            EDGES.due("whose(" + sighting + ", " + (k - 1) + ")", x.whose(sighting, k - 1), want[k]);
        }
    }

    private static void personsWeigh() {
        EDGES.says("WHOSE BODY: of a SIGHTING the PERSON weighs 1000 (0, if it can't be at it and at one of its other"
                + " SIGHTINGS that no SHADE has; whether these clash among themselves counts for nothing),");
        whose(Sightings.seen("pa5"), 0, 333, 333, 333);
        whose(Sightings.seen("pa5 pb7"), 0, 333, 333, 333);
        whose(Sightings.seen("pa5 pb6"), 0, 0, 500, 500);
        whose(Sightings.seen("pa5 pb6"), 1, 0, 500, 500);
        whose(Sightings.seen("pa5 qb6"), 0, 333, 333, 333);
        whose(Sightings.seen("pa5 pa6 pb6"), 0, 0, 500, 500);
        // a SHADE has the one that clashes, and that SHADE can't be here
        whose(Sightings.hired("pa5 pb6", -1, 0), 0, 500, 0, 500);
        whose(Sightings.hired("pa5 pb6", 0), 0, 0, 500, 500);
        // 1 and 2 clash, but not with 0
        whose(Sightings.seen("pa5 pb9 pc9"), 0, 333, 333, 333);
        whose(Sightings.seen("pa5 pb9 pc9"), 1, 0, 500, 500);
    }

    private static void shadesWeigh() {
        EDGES.says("each SHADE its PASS (0, if it CAN'T BE there besides all it is HIRED for elsewhere):");
        HiredShades x = Guilds.made("traits t 100 0;person p 1;place a;place b;road a b 2;shade s fee 1 2 fakes 0;"
                + "shade u fee 1 1 fakes 0;seen p at a hour 5 light 75 dry;seen p at b hour 7 light 0 dry;"
                + "seen p at b hour 6 light 100 dry;");
        // 1000 or nothing for the PERSON, who can't be at 0 and 2; PASS 250 and 1000
        whose(x, 0, 0, 200, 800);
        whose(x, 1, 333, 333, 333);
        whose(x, 2, 0, 0, 1000);
        EDGES.due("s is at 2", x.hire(2, 0), true);
        whose(x, 0, 500, 0, 500);
        whose(x, 1, 333, 333, 333);
        EDGES.due("s is at 1 instead", x.hire(2, -1) && x.hire(1, 0), true);
        whose(x, 0, 0, 200, 800);
        EDGES.due("s is here himself", x.hire(0, 0), true);
        whose(x, 0, 0, 200, 800);
    }

    private static void oddsAreRoundedDown() {
        EDGES.says("floor(1000 times what one weighs / all together), 0 when all are 0.");
        HiredShades x = Guilds.made("traits t 1 1;" + AHEAD + "seen p at a hour 1 light 1 dry;");
        // 1000 and 999 of 1999: 500.25 and 499.75
        whose(x, 0, 500, 499);
        Guilds.tell(x, "traits t 100 100;" + AHEAD + "seen p at a hour 1 light 100 dry;");
        whose(x, 0, 1000, 0);
        Guilds.tell(x, "traits t 100 100;" + AHEAD + "place b;seen p at a hour 1 light 100 dry;"
                + "seen p at b hour 1 light 100 dry;");
        whose(x, 0, 0, 0);
        whose(x, 1, 0, 0);
        Guilds.tell(x, "traits t 1 1;person p 1;place a;seen p at a hour 1 light 1 dry;");
        whose(x, 0, 1000);
        Guilds.tell(x, "traits t 1 1;person p 1;place a;place b;seen p at a hour 1 light 1 dry;seen p at b hour 1 light 1 dry;");
        whose(x, 0, 0);
    }

    private static void allTrue() {
        EDGES.says("ALL TRUE: how many ways there are to lead each SIGHTING that no SHADE has to a body, its PERSON or a SHADE"
                + " with PASS not below so much, so that each CAN BE at all it has");
        EDGES.due("one by three", Sightings.seen("pa5").ways(0), 3);
        EDGES.due("two that go together", Sightings.seen("pa5 pb7").ways(0), 9);
        EDGES.due("two that clash", Sightings.seen("pa5 pb6").ways(0), 6);
        EDGES.due("two PERSONS' that clash", Sightings.seen("pa5 qb6").ways(0), 7);
        EDGES.due("three in one HOUR", Sightings.seen("pa5 pb5 pc5").ways(0), 6);
        EDGES.due("four in one HOUR", Sightings.seen("pa5 pb5 pc5 pd5").ways(0), 0);
        EDGES.due("one is HIRED elsewhere", Sightings.hired("pa5 pb6", 0).ways(0), 2);
        EDGES.due("one is HIRED two HOURS apart", Sightings.hired("pa5 pb7", 0).ways(0), 3);
        EDGES.due("all are HIRED", Sightings.hired("pa5 pb6", 0, 1).ways(0), 1);
        // PASS 950
        HiredShades x = Guilds.made("traits t 10 10;" + AHEAD + Sightings.text("pa5"));
        EDGES.due("ways(950)", x.ways(950), 2);
        EDGES.due("ways(951)", x.ways(951), 1);
    }

    private static String five(int sightings) {
        StringBuilder text = new StringBuilder("traits t 1 1;person p 1;place a;");
        for (char name : "suvwx".toCharArray()) {
            text.append("shade ").append(name).append(" fee 1 1 fakes 0;");
        }
        return text + "seen p at a hour 1 light 1 dry;".repeat(sightings);
    }

    private static void allTrueOfEight() {
        EDGES.says("(10 to the 9 at most; for 8 such SIGHTINGS at most).");
        // six bodies for each of eight: 10 to the 9 is never reached
        EDGES.due("none", Guilds.made(five(0)).ways(0), 1);
        EDGES.due("seven", Guilds.made(five(7)).ways(0), 279936);
        HiredShades x = Guilds.made(five(8));
        EDGES.due("eight", x.ways(0), 1679616);
        x = Guilds.made(five(9));
        EDGES.due("nine", x.ways(0), -1);
        EDGES.due("nine, by none", x.ways(1001), -1);
        EDGES.due("one of nine is HIRED", x.hire(4, 2), true);
        EDGES.due("eight of nine", x.ways(0), 1679616);
        EDGES.due("24", Guilds.made(five(24)).ways(0), -1);
    }

    private static void couldBe() {
        EDGES.says("COULD BE: a body in a PLACE at an HOUR, if it CAN BE there and at each one it has (a PERSON: its SIGHTINGS"
                + " that no SHADE has; a SHADE: what it is HIRED for), these among themselves counting for nothing.");
        HiredShades x = Sightings.seen("pa50 qb50 pc60 pd90");
        EDGES.due("p is out of reach of d, r was not seen", x.could(0, 20, false), 6);
        EDGES.due("the one in d is s's", x.hire(3, 0), true);
        EDGES.due("b at 48, 2 FAR", x.could(1, 48, false), 7);
        EDGES.due("b at 49, 2 FAR", x.could(1, 49, false), 6);
        EDGES.due("b at 51, 2 FAR", x.could(1, 51, false), 6);
        EDGES.due("b at 52, 2 FAR", x.could(1, 52, false), 7);
        EDGES.due("b at 58, 2 FAR", x.could(1, 58, false), 7);
        EDGES.due("b at 59, 2 FAR", x.could(1, 59, false), 6);
        EDGES.due("a at 49", x.could(0, 49, false), 5);
        EDGES.due("s in d alone", x.could(3, 0, true), 3);
        EDGES.due("s is out of reach", x.could(0, 0, true), 2);
        HiredShades y = Sightings.seen("pa50 pb50 pa50");
        EDGES.due("clashing at 50, but not with b at 52", y.could(1, 52, false), 7);
        EDGES.due("clashing at 50, and with b at 51", y.could(1, 51, false), 6);
        HiredShades z = Sightings.hired("pa50 pb52 pc54", 0, 0, 1);
        EDGES.due("s between both, where it is late", z.could(1, 51, true), 2);
        EDGES.due("s where it is in time", z.could(1, 53, true), 1);
        EDGES.due("nobody has one", z.could(1, 0, false), 7);
    }

    /** The DRAW that comes behind a seed, and the seed that it leaves. */
    private static long next(long seed) {
        return (1103515245L * seed + 12345L) % (1L << 31);
    }

    private static int draw(long seed) {
        return (int) (next(seed) / 64 % 1000);
    }

    /** A seed of which the first DRAW is this. */
    private static int seedOf(int draw) {
        for (int seed = 0; seed < 1000000; seed++) {
            if (draw(seed) == draw) {
                return seed;
            }
        }
        throw new IllegalStateException("no seed draws " + draw);
    }

    private static HiredShades passing(String traits, String own, int light) {
        HiredShades x = Guilds.made("traits " + traits + ";person p " + own.replace('2', '1') + ";place a;shade s fee 77 "
                + own + " fakes " + own.replace('2', '0') + ";seen p at a hour 1 light " + light + " dry;tithe 10;");
        x.hire(0, 0);
        return x;
    }

    private static void draws() {
        EDGES.says("A DRAW of m: x (the seed) becomes (1103515245 x + 12345) mod 2 to the 31; floor(x / 64) mod m.");
        for (int seed : new int[] {0, 1, 2, 63, 64, 12345, 1 << 30, Edges.HIGH - 1, Edges.HIGH}) {
            HiredShades x = passing("t 50 50", "2", 100);
            EDGES.due("PASS", x.pass(0, 0), 500);
            EDGES.due("seed(" + seed + ")", x.seed(seed), true);
            long now = seed;
            for (int day = 0; day < 40; day++) {
                EDGES.due("DAY " + day + " by seed " + seed, x.days(1, 1), draw(now) >= 500 ? 1 : 0);
                now = next(now);
            }
        }
    }

    private static void foundOut(HiredShades x, int pass, int draw) {
        EDGES.due("pass(0, 0)", x.pass(0, 0), pass);
        EDGES.due("seed", x.seed(seedOf(draw)), true);
        EDGES.due("DRAW " + draw + " by PASS " + pass, x.days(1, 1), draw >= pass ? 1 : 0);
    }

    private static void foundOutByPass() {
        EDGES.says("a DRAW of 1000: not below its PASS, it is FOUND OUT.");
        HiredShades x = passing("t 50 50", "2", 100);
        for (int draw : new int[] {0, 498, 499, 500, 501, 999}) {
            foundOut(x, 500, draw);
        }
        for (int draw : new int[] {0, 998, 999}) {
            foundOut(passing("t 1 1", "2", 1), 999, draw);
            foundOut(passing("t 0 0", "2", 1), 1000, draw);
            foundOut(passing("t 100 0", "2", 100), 0, draw);
        }
        for (int draw : new int[] {0, 1, 2}) {
            foundOut(passing("t 100 0,u 90 0", "2 2", 99), 1, draw);
        }
    }

    private static void daysBySightings() {
        EDGES.says("A DAY: by SIGHTINGS, for each that a SHADE has,");
        String text = "traits t 50 50;person p 1;place a;shade s fee 1 2 fakes 0;seen p at a hour 9 light 100 dry;"
                + "seen p at a hour 5 light 100 dry;seen p at a hour 1 light 0 dry;seen p at a hour 3 light 100 dry;"
                + "price 10 when hour=9;price 100 when hour=3;price 0 when all;";
        HiredShades x = Guilds.made(text);
        x.hire(3, 0);
        x.hire(2, 0);
        x.hire(0, 0);
        long seed = 1;
        for (int day = 0; day < 30; day++) {
            // no DRAW for 1, which nobody has; one for 2 though its PASS is 1000
            int first = draw(seed);
            int third = draw(next(next(seed)));
            seed = next(next(next(seed)));
            EDGES.due("DAY " + day, x.days(1, 0), (first >= 500 ? -10 : 0) + (third >= 500 ? -100 : 0));
        }
    }

    private static void gets(int price, int tithe, int want) {
        String text = "traits t 100 100;person p 1;place a;shade s fee 1 1 fakes 0;shade u fee 1 2 fakes 0;"
                + "seen p at a hour 1 light 100 dry;price " + price + " when all;tithe " + tithe + ";";
        HiredShades x = Guilds.made(text);
        EDGES.due("hire", x.hire(0, 0), true);
        EDGES.due("gets of " + price + " by " + tithe, x.days(1, 0), want);
        EDGES.due("of none found out", x.days(1, 1), 0);
        EDGES.due("hire", x.hire(0, 1), true);
        EDGES.due("pays back " + price, x.days(1, 0), -price);
        EDGES.due("of one found out", x.days(1, 1), 1);
    }

    private static void whatTheGuildGets() {
        EDGES.says("THE GUILD gets floor(PRICE times tithe / 100) for each that is not, and pays the whole PRICE back for each"
                + " that is.");
        gets(99, 1, 0);
        gets(100, 1, 1);
        gets(199, 1, 1);
        gets(3, 33, 0);
        gets(3, 34, 1);
        gets(199, 50, 99);
        gets(999, 99, 989);
        gets(999, 100, 999);
        gets(999, 0, 0);
        gets(0, 100, 0);
        gets(1, 99, 0);
        gets(1, 100, 1);
    }

    private static void image(HiredShades x, int... want) {
        EDGES.due("image()", x.image(), want.length);
        for (int k = 0; k < want.length; k++) {
            EDGES.due("octet(" + k + ")", x.octet(k), want[k]);
        }
        EDGES.due("octet behind it", x.octet(want.length), -1);
    }

    private static void imagesOfSightings() {
        EDGES.says("AN IMAGE: for each SIGHTING its SHADE and 1 (0 none); last a byte: all ahead from 73 on, c = (7 c + it) mod"
                + " 251.");
        image(new HiredShades(), 73);
        // 511 + 0 = 9 above twice 251
        image(Sightings.seen("pa5"), 0, 9);
        image(Sightings.hired("pa5", 0), 1, 10);
        image(Sightings.hired("pa5", 1), 2, 11);
        image(Sightings.seen("pa5 pa6"), 0, 0, 63);
        image(Sightings.hired("pa5 pa6 pa7", 1, -1, 0), 2, 0, 1, (77 * 7 + 1) % 251);
        HiredShades full = Guilds.made(five(24));
        int[] want = new int[25];
        int check = 73;
        for (int sighting = 0; sighting < 24; sighting++) {
            full.hire(sighting, sighting % 6 - 1);
            want[sighting] = sighting % 6;
            check = (7 * check + want[sighting]) % 251;
        }
        want[24] = check;
        image(full, want);
    }

    private static int[] withCheck(int... bytes) {
        int[] all = java.util.Arrays.copyOf(bytes, bytes.length + 1);
        all[bytes.length] = 73;
        for (int it : bytes) {
            all[bytes.length] = (7 * all[bytes.length] + it) % 251;
        }
        return all;
    }

    private static void taken(String told, boolean want, int... bytes) {
        EDGES.due("on() of " + java.util.Arrays.toString(bytes) + " for " + told,
                Guilds.load(Sightings.seen(told), bytes), want);
    }

    private static void imagesThatAreTaken() {
        EDGES.says("It is taken, if it is such, with as many SIGHTINGS, and all CAN BE.");
        for (int shade = 0; shade <= 255; shade++) {
            taken("pa5", shade <= 2, withCheck(shade));
        }
        for (int last = 0; last <= 255; last++) {
            taken("pa5", last == 10, 1, last);
        }
        taken("pa5 pa6", true, withCheck(0, 0));
        taken("pa5 pa6", false, withCheck(0));
        taken("pa5 pa6", false, withCheck(0, 0, 0));
        taken("pa5 pa6", false, withCheck());
        taken("pa5 pa6", false);
        taken("pa5 pa6", false, 0, 0);
        taken("pa5 pb6", true, withCheck(0, 0));
        taken("pa5 pb6", true, withCheck(1, 0));
        taken("pa5 pb6", true, withCheck(1, 2));
        taken("pa5 pb6", false, withCheck(1, 1));
        taken("pa5 pb6", false, withCheck(2, 2));
        taken("pa5 pb7", true, withCheck(2, 2));
        taken("pa5 pc60 pb6", true, withCheck(2, 2, 1));
        taken("pa5 pc60 pb6", false, withCheck(2, 1, 2));
        taken("pa5 pc60 pd60", false, withCheck(1, 2, 1));
        taken("pa5 qb5", false, withCheck(1, 1));
        EDGES.due("of nothing", Guilds.load(new HiredShades(), 73), true);
        EDGES.due("of nothing, by another byte", Guilds.load(new HiredShades(), 72), false);
        EDGES.due("of nothing, by no byte", Guilds.load(new HiredShades()), false);
        HiredShades full = Guilds.made(five(24));
        int[] most = new int[24];
        java.util.Arrays.fill(most, 5);
        EDGES.due("of 24", Guilds.load(full, withCheck(most)), true);
        EDGES.due("its last one", full.seen(23, 5), 4);
        most[23] = 6;
        EDGES.due("of 24, with a SHADE that there is not", Guilds.load(full, withCheck(most)), false);
    }
}
