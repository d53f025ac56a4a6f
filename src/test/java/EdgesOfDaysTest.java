/** The edges of promises 28 to 33: seed, days, average, image, octet, on. */
public final class EdgesOfDaysTest {
    private static final Edges EDGES = new Edges("EdgesOfDaysTest");
    private static final int LOW = Edges.LOW;
    private static final int HIGH = Edges.HIGH;
    private static final int NO_DAYS = -1000000000;
    /** s passes by 500 for 0 and 1, u by 1000; PRICE 100. */
    private static final String HALF = "traits t 50 50;person p 1;place a;place b;road a b 2;shade s fee 1 2 fakes 0;"
            + "shade u fee 1 1 fakes 0;seen p at a hour 5 light 100 dry;seen p at a hour 6 light 100 dry;"
            + "seen p at b hour 6 light 100 dry;price 100 when all;tithe 10;";
    private static final Edges.Act BUSY = x -> {
        Guilds.tell(x, HALF);
        x.hire(2, 0);
        x.hire(2, 1);
        x.hire(0, 0);
        x.image();
        x.hire(1, 0);
        x.seed(9);
    };

    public static void main(String[] args) {
        seeds();
        seedsBelowZero();
        seedAtFirst();
        days();
        daysWithoutHired();
        daysThatCantBe();
        averages();
        images();
        octets();
        octetsOfNone();
        imagesOn();
        imagesRefused();
        EDGES.end();
    }

    private static HiredShades busy() {
        HiredShades x = new HiredShades();
        BUSY.on(x);
        return x;
    }

    /** How many of so many DRAWS behind a seed are not below 500. */
    private static int notBelow500(long seed, int draws) {
        long x = seed;
        int count = 0;
        for (int n = 0; n < draws; n++) {
            x = (1103515245L * x + 12345L) % 2147483648L;
            count += x / 64 % 1000 >= 500 ? 1 : 0;
        }
        return count;
    }

    private static HiredShades oneHalf() {
        HiredShades x = Guilds.made(HALF);
        x.hire(0, 0);
        return x;
    }

    private static void seeds() {
        EDGES.says("The seed of DAYS: true;");
        for (int seed : new int[] {0, 1, 2, 1000000, HIGH - 1, HIGH}) {
            HiredShades x = oneHalf();
            EDGES.due("seed(" + seed + ")", x.seed(seed), true);
            EDGES.due("days by it", x.days(100, 1), notBelow500(seed, 100));
            EDGES.due("seed(" + seed + ") again", x.seed(seed), true);
            EDGES.due("DAYS by DAYS", x.days(37, 1) + x.days(63, 1), notBelow500(seed, 100));
            EDGES.due("a seed of a new one", new HiredShades().seed(seed), true);
        }
    }

    private static void seedsBelowZero() {
        EDGES.says("false when it is below 0.");
        for (int seed : new int[] {-1, -2, LOW + 1, LOW}) {
            EDGES.due("seed(" + seed + ")", busy().seed(seed), false);
            EDGES.nothingDone("seed(" + seed + ")", BUSY, x -> x.seed(seed));
        }
    }

    private static void seedAtFirst() {
        EDGES.says("(It is 1 at first.)");
        for (int n = 1; n <= 40; n++) {
            EDGES.due("days(" + n + ", 1)", oneHalf().days(n, 1), notBelow500(1, n));
        }
    }

    private static void days() {
        EDGES.says("n DAYS (1 .. 100): what THE GUILD gets less what it pays back (what 0), how often one was FOUND OUT (1).");
        for (int n : new int[] {1, 2, 99, 100}) {
            int found = notBelow500(1, n);
            EDGES.due("days(" + n + ", 1)", oneHalf().days(n, 1), found);
            EDGES.due("days(" + n + ", 0)", oneHalf().days(n, 0), 10 * (n - found) - 100 * found);
        }
        HiredShades x = Guilds.made("traits t 100 0;person p 1;place a;shade s fee 1 2 fakes 0;"
                + "seen p at a hour 1 light 100 dry;".repeat(24) + "price 999 when all;tithe 100;");
        for (int sighting = 0; sighting < 24; sighting++) {
            x.hire(sighting, 0);
        }
        EDGES.due("all are found out", x.days(100, 1), 2400);
        EDGES.due("the most is paid back", x.days(100, 0), -2397600);
        Guilds.tell(x, "traits t 100 0;person p 1;place a;shade s fee 1 2 fakes 0;"
                + "seen p at a hour 1 light 100 rain;".repeat(24) + "price 999 when all;tithe 100;");
        for (int sighting = 0; sighting < 24; sighting++) {
            x.hire(sighting, 0);
        }
        EDGES.due("none is found out", x.days(100, 1), 0);
        EDGES.due("the most that it gets", x.days(100, 0), 2397600);
    }

    private static void daysWithoutHired() {
        EDGES.says("0 without HIRED ones;");
        HiredShades x = Guilds.made(HALF);
        for (int n : new int[] {1, 100}) {
            EDGES.due("days(" + n + ", 0)", x.days(n, 0), 0);
            EDGES.due("days(" + n + ", 1)", x.days(n, 1), 0);
            EDGES.due("of no GUILD", new HiredShades().days(n, 0), 0);
            EDGES.due("of no GUILD", new HiredShades().days(n, 1), 0);
        }
        EDGES.due("and there was no DRAW", x.hire(0, 0) ? x.days(100, 1) : -1, notBelow500(1, 100));
    }

    private static void daysThatCantBe() {
        EDGES.says("-1000000000 when something can't be.");
        for (int n : new int[] {0, -1, 101, LOW, HIGH}) {
            for (int what = 0; what <= 1; what++) {
                EDGES.due("days(" + n + ", " + what + ")", busy().days(n, what), NO_DAYS);
                EDGES.due("without HIRED ones", new HiredShades().days(n, what), NO_DAYS);
            }
            EDGES.nothingDone("days(" + n + ", 0)", BUSY, x -> x.days(n, 0));
        }
        for (int what : new int[] {-1, 2, LOW, HIGH}) {
            EDGES.due("days(1, " + what + ")", busy().days(1, what), NO_DAYS);
            EDGES.due("without HIRED ones", new HiredShades().days(100, what), NO_DAYS);
            EDGES.nothingDone("days(1, " + what + ")", BUSY, x -> x.days(1, what));
        }
    }

    private static int average(int shows, int price, int tithe) {
        HiredShades x = Guilds.made("traits t " + shows + " 0;person p 1;place a;shade s fee 1 2 fakes 0;"
                + "seen p at a hour 1 light 100 dry;".repeat(24) + "price " + price + " when all;tithe " + tithe + ";");
        for (int sighting = 0; sighting < 24; sighting++) {
            x.hire(sighting, 0);
        }
        return x.average();
    }

    private static void averages() {
        EDGES.says("What all that is HIRED brings on a DAY on the average, times 1000: for each floor(PRICE times tithe / 100)"
                + " times PASS, less PRICE times (1000 - PASS), together.");
        EDGES.due("of none", Guilds.made(HALF).average(), 0);
        EDGES.due("of no GUILD", new HiredShades().average(), 0);
        EDGES.due("of one", oneHalf().average(), 10 * 500 - 100 * 500);
        // two by s, one by u
        EDGES.due("of three", busy().average(), 2 * (10 * 500 - 100 * 500) + 10 * 1000);
        EDGES.due("PASS 0", average(100, 999, 100), -24 * 999 * 1000);
        EDGES.due("PASS 1000", average(0, 999, 100), 24 * 999 * 1000);
        EDGES.due("PASS 1000, no tithe", average(0, 999, 0), 0);
        EDGES.due("PASS 500, rounded down for each", average(50, 199, 1), 24 * (500 - 199 * 500));
        EDGES.due("PRICE 0", average(50, 0, 100), 0);
        EDGES.nothingDone("average()", BUSY, x -> x.average());
    }

    private static void images() {
        EDGES.says("AN IMAGE is written: how many bytes.");
        EDGES.due("of nothing", new HiredShades().image(), 1);
        EDGES.due("of no SIGHTINGS", Guilds.made("traits t 1 1;").image(), 1);
        EDGES.due("of three", busy().image(), 4);
        EDGES.due("of 24", Guilds.made(Sightings.AHEAD + "seen p at a hour 1 light 1 dry;".repeat(24)).image(), 25);
        HiredShades x = busy();
        EDGES.due("image()", x.image(), 4);
        EDGES.due("nobody else is HIRED", x.has(7), 3);
        EDGES.due("undo()", x.undo(), true);
        EDGES.due("it is written once", x.octet(1), 1);
        EDGES.due("image()", x.image(), 4);
        EDGES.due("it is written anew", x.octet(1), 0);
    }

    private static void octets() {
        EDGES.says("Byte k of the latest image();");
        HiredShades x = busy();
        x.image();
        int[] want = {1, 1, 2, 0};
        want[3] = (((73 * 7 + 1) * 7 + 1) * 7 + 2) % 251;
        for (int turn = 0; turn < 4; turn++) {
            for (int k = 0; k < 4; k++) {
                EDGES.due("octet(" + k + ") in turn " + turn, x.octet(k), want[k]);
            }
            if (turn == 0) {
                EDGES.due("hire leaves it", x.hire(0, -1), true);
            } else if (turn == 1) {
                EDGES.due("guild() leaves it", Guilds.tell(x, Sightings.AHEAD), 12);
            } else if (turn == 2) {
                EDGES.due("on() leaves it", Guilds.load(x, 73), true);
            }
        }
        EDGES.due("a shorter one", x.image(), 1);
        EDGES.due("octet(0)", x.octet(0), 73);
        EDGES.due("octet(1)", x.octet(1), -1);
    }

    private static void octetsOfNone() {
        EDGES.says("NONE when there is none such.");
        HiredShades x = Guilds.made(HALF);
        for (int k : new int[] {0, 1, 3, -1, LOW, HIGH}) {
            EDGES.due("octet(" + k + ") ahead of any", x.octet(k), -1);
        }
        x.image();
        for (int k : new int[] {4, 5, 24, 25, -1, LOW, HIGH}) {
            EDGES.due("octet(" + k + ")", x.octet(k), -1);
        }
        HiredShades most = Guilds.made(Sightings.AHEAD + "seen p at a hour 1 light 1 dry;".repeat(24));
        most.image();
        EDGES.due("octet(24)", most.octet(24) >= 0, true);
        EDGES.due("octet(25)", most.octet(25), -1);
    }

    private static int[] withCheck(int... bytes) {
        int[] all = java.util.Arrays.copyOf(bytes, bytes.length + 1);
        all[bytes.length] = 73;
        for (int it : bytes) {
            all[bytes.length] = (7 * all[bytes.length] + it) % 251;
        }
        return all;
    }

    private static void imagesOn() {
        EDGES.says("The tape (it goes) is AN IMAGE: true, SIGHTINGS have SHADES as it tells, nothing can be undone;");
        HiredShades x = busy();
        EDGES.due("on()", Guilds.load(x, withCheck(2, 0, 1)), true);
        int[] want = {1, -1, 0};
        for (int sighting = 0; sighting < 3; sighting++) {
            EDGES.due("seen(" + sighting + ", 5)", x.seen(sighting, 5), want[sighting]);
        }
        EDGES.due("acts", x.has(8), 0);
        EDGES.due("undo()", x.undo(), false);
        EDGES.due("the tape went", x.end(1), false);
        EDGES.due("on() again", x.on(), false);
        EDGES.due("hire", x.hire(0, -1), true);
        EDGES.due("one act", x.has(8), 1);
        EDGES.due("undo()", x.undo(), true);
        EDGES.due("as the image told", x.seen(0, 5), 1);
        EDGES.due("the seed stays", x.days(50, 1), seedAfterOn());
        EDGES.due("on() of none HIRED", Guilds.load(x, withCheck(0, 0, 0)), true);
        EDGES.due("nobody is HIRED", x.has(7), 0);
        EDGES.due("on() of what was so already", Guilds.load(x, withCheck(0, 0, 0)), true);
        // what its image() told
        HiredShades from = busy();
        int[] bytes = new int[from.image()];
        for (int k = 0; k < bytes.length; k++) {
            bytes[k] = from.octet(k);
        }
        EDGES.due("on() of another's", Guilds.load(x, bytes), true);
        for (int sighting = 0; sighting < 3; sighting++) {
            EDGES.due("as the other's", x.seen(sighting, 5), from.seen(sighting, 5));
        }
    }

    /** What 50 DAYS tell by seed 9, u having 0 and s having 2: two DRAWS a DAY, the second one for s. */
    private static int seedAfterOn() {
        long x = 9;
        int count = 0;
        for (int n = 0; n < 100; n++) {
            x = (1103515245L * x + 12345L) % 2147483648L;
            count += n % 2 == 1 && x / 64 % 1000 >= 500 ? 1 : 0;
        }
        return count;
    }

    private static void imagesRefused() {
        EDGES.says("false when it is none (all stays).");
        int good = withCheck(2, 0, 1)[3];
        int[][] refused = {{}, {73}, {2}, {2, 0, 1}, {2, 0, 1, good + 1}, {2, 0, 1, good - 1}, {2, 0, 1, good, 0}, {2, 0, 1, 255},
            withCheck(2, 0), withCheck(2, 0, 1, 0), withCheck(3, 0, 1), withCheck(2, 0, 255), withCheck(2, 0, 2),
            withCheck(0, 1, 1), {0, 2, 0, 1, good}, withCheck(2, 3, 1)};
        for (int[] bytes : refused) {
            String call = "on() of " + java.util.Arrays.toString(bytes);
            HiredShades x = busy();
            EDGES.due(call, Guilds.load(x, bytes), false);
            EDGES.due("the tape went", x.end(1), false);
            EDGES.allStays(call, BUSY, y -> Guilds.load(y, bytes));
        }
        HiredShades faulty = new HiredShades();
        Guilds.tell(faulty, "traits a 101 1;");
        EDGES.due("on()", Guilds.load(faulty, 72), false);
        EDGES.due("the FAULT stays", faulty.fault(0), 2);
        EDGES.due("its place stays", faulty.fault(1), 9);
    }
}
