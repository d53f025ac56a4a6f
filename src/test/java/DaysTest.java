/** Promises 28 to 30: seed, days, average. */
public final class DaysTest {
    private static final Check CHECK = new Check("DaysTest");
    private static final int LOW = Integer.MIN_VALUE;
    private static final int HIGH = Integer.MAX_VALUE;
    private static final int NO_DAYS = -1000000000;
    /** PASS 500 and PRICE 77; PASS 1000 and PRICE 9; PASS 0 and PRICE 15. */
    private static final String THREE = "traits t 50 100,u 100 100;person p 1 1;person q 1 2;place a;"
            + "shade s fee 77 2 1 fakes 0 0;shade v fee 9 1 1 fakes 0 0;shade w fee 15 1 1 fakes 0 0;"
            + "seen p at a hour 1 light 100 dry;seen p at a hour 2 light 100 dry;seen q at a hour 3 light 100 dry;tithe 33;";

    public static void main(String[] args) {
        seeds();
        refusesDays();
        daysWithoutHires();
        draws();
        drawsBySightings();
        averages();
        CHECK.end();
    }

    private static void seeds() {
        HiredShades x = new HiredShades();
        CHECK.due("seed(0)", x.seed(0), true);
        CHECK.due("seed(high)", x.seed(HIGH), true);
        CHECK.due("seed(-1)", x.seed(-1), false);
        CHECK.due("seed(low)", x.seed(LOW), false);
    }

    private static void refusesDays() {
        HiredShades x = Guilds.made(THREE);
        x.hire(0, 0);
        for (int n : new int[] {0, -1, 101, LOW, HIGH}) {
            CHECK.due("days(" + n + ", 0)", x.days(n, 0), NO_DAYS);
            CHECK.due("days(" + n + ", 1)", x.days(n, 1), NO_DAYS);
        }
        for (int what : new int[] {-1, 2, LOW, HIGH}) {
            CHECK.due("days(1, " + what + ")", x.days(1, what), NO_DAYS);
        }
        // no DRAW was made: the seed is still 1
        CHECK.due("days(100, 1)", x.days(100, 1), foundOut(1, 100));
    }

    private static void daysWithoutHires() {
        HiredShades x = Guilds.made(THREE);
        CHECK.due("days(100, 0)", x.days(100, 0), 0);
        CHECK.due("days(1, 1)", x.days(1, 1), 0);
        CHECK.due("days(0, 1)", x.days(0, 1), NO_DAYS);
        x.hire(0, 0);
        CHECK.due("the seed stayed", x.days(50, 1), foundOut(1, 50));
    }

    /** Of DRAWS from a seed on: how many are not below 500. */
    private static int foundOut(long seed, int draws) {
        long x = seed;
        int found = 0;
        for (int n = 0; n < draws; n++) {
            x = (1103515245L * x + 12345) % (1L << 31);
            found += x / 64 % 1000 >= 500 ? 1 : 0;
        }
        return found;
    }

    private static void draws() {
        for (int seed : new int[] {0, 1, 2, 12345, HIGH - 1, HIGH}) {
            HiredShades x = Guilds.made(THREE);
            x.hire(0, 0);
            for (int n : new int[] {1, 7, 100}) {
                int found = foundOut(seed, n);
                x.seed(seed);
                CHECK.due("found out by " + seed, x.days(n, 1), found);
                x.seed(seed);
                CHECK.due("gets by " + seed, x.days(n, 0), (n - found) * 25 - found * 77);
            }
            x.seed(seed);
            int first = x.days(40, 1);
            CHECK.due("refused", x.seed(-1), false);
            CHECK.due("days go on by " + seed, first + x.days(60, 1), foundOut(seed, 100));
        }
    }

    private static void drawsBySightings() {
        HiredShades x = Guilds.made(THREE);
        x.hire(2, 2);
        x.hire(1, 1);
        CHECK.due("PASS 0 is found out, PASS 1000 is not", x.days(100, 1), 100);
        CHECK.due("9 * 33 / 100 and 15", x.days(100, 0), 100 * (2 - 15));
        x.hire(0, 0);
        x.seed(9);
        long seed = 9;
        int gets = 0;
        for (int day = 0; day < 20; day++) {
            for (int sighting = 0; sighting < 3; sighting++) {
                seed = (1103515245L * seed + 12345) % (1L << 31);
                if (sighting == 0) {
                    gets += seed / 64 % 1000 < 500 ? 25 : -77;
                }
            }
            gets += 2 - 15;
        }
        CHECK.due("three DRAWS a DAY", x.days(20, 0), gets);
        HiredShades all = Guilds.made(THREE.replace("tithe 33", "tithe 100"));
        all.hire(1, 1);
        CHECK.due("the whole PRICE", all.days(3, 0), 27);
        HiredShades none = Guilds.made(THREE.replace("tithe 33;", ""));
        none.hire(1, 1);
        CHECK.due("no tithe", none.days(3, 0), 0);
    }

    private static void averages() {
        HiredShades x = Guilds.made(THREE);
        CHECK.due("average of none", x.average(), 0);
        x.hire(0, 0);
        CHECK.due("average of one", x.average(), 25 * 500 - 77 * 500);
        x.hire(1, 1);
        CHECK.due("average of two", x.average(), 25 * 500 - 77 * 500 + 2 * 1000);
        x.hire(2, 2);
        CHECK.due("average of three", x.average(), 25 * 500 - 77 * 500 + 2 * 1000 - 15 * 1000);
        int before = Guilds.made(THREE).days(1, 0);
        CHECK.due("no DRAW", before, 0);
        StringBuilder text = new StringBuilder("traits t 100 100;person p 1;place a;shade s fee 1 2 fakes 0;");
        for (int n = 0; n < 24; n++) {
            text.append("seen p at a hour 1 light 100 dry;");
        }
        HiredShades most = Guilds.made(text + "price 999 when all;");
        for (int n = 0; n < 24; n++) {
            most.hire(n, 0);
        }
        CHECK.due("the least average", most.average(), -24 * 999 * 1000);
        CHECK.due("the least days", most.days(100, 0), -24 * 999 * 100);
        CHECK.due("the most found out", most.days(100, 1), 2400);
    }
}
