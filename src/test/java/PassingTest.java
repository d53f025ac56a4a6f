/** Promises 11 to 14: pass, price, best, whose. */
public final class PassingTest {
    private static final Check CHECK = new Check("PassingTest");
    private static final int LOW = Integer.MIN_VALUE;
    private static final int HIGH = Integer.MAX_VALUE;

    public static void main(String[] args) {
        passes();
        refusesPassAndPrice();
        prices();
        findsTheBest();
        weighsBodies();
        weighsHiredBodies();
        weighsNothing();
        CHECK.end();
    }

    private static void passes() {
        HiredShades x = Guilds.made("traits a 100 0,b 33 50,c 7 9;person p 1 1 1;person q 2 2 2;"
                + "shade s fee 3 2 2 2 fakes 0 0 0;shade u fee 3 2 2 2 fakes 1 0 1;shade v fee 2 1 1 1 fakes 0 0 0;"
                + "place x;seen p at x hour 0 light 100 dry;seen p at x hour 0 light 100 rain;"
                + "seen p at x hour 0 light 37 dry;seen p at x hour 0 light 0 dry;seen q at x hour 0 light 37 dry;");
        // 1000 * .63 = 630; * (10000 - 33 * 37) / 10000 = 553.077; 553 * (10000 - 7 * 37) / 10000 = 538.67
        int[][] want = {{0, 455, 538, 1000, 1000}, {670, 500, 877, 1000, 1000}, {1000, 1000, 1000, 1000, 538}};
        for (int shade = 0; shade < 3; shade++) {
            for (int sighting = 0; sighting < 5; sighting++) {
                CHECK.due("pass(" + shade + ", " + sighting + ")", x.pass(shade, sighting), want[shade][sighting]);
            }
        }
    }

    private static void refusesPassAndPrice() {
        HiredShades x = Guilds.made(Guilds.SMALL);
        for (int none : new int[] {-1, LOW, HIGH, 24}) {
            CHECK.due("pass of no SHADE", x.pass(none, 0), -1);
            CHECK.due("pass of no SIGHTING", x.pass(0, none), -1);
            CHECK.due("price of no SHADE", x.price(none, 0), -1);
            CHECK.due("price of no SIGHTING", x.price(0, none), -1);
            CHECK.due("best of no SIGHTING", x.best(none, true, 0), -1);
            CHECK.due("best of no SIGHTING", x.best(none, false, 0), -1);
            CHECK.due("whose of no SIGHTING", x.whose(none, 0), -1);
        }
        CHECK.due("pass of SHADE 2", x.pass(2, 0), -1);
        CHECK.due("pass of SIGHTING 4", x.pass(0, 4), -1);
        CHECK.due("price of SHADE 2", x.price(2, 0), -1);
        CHECK.due("price of SIGHTING 4", x.price(0, 4), -1);
        CHECK.due("whose SHADE 2", x.whose(0, 2), -1);
        CHECK.due("whose SHADE -2", x.whose(0, -2), -1);
    }

    private static void prices() {
        HiredShades x = Guilds.made(Guilds.SMALL);
        int[][] want = {{5, 10, 5, 7}, {9, 18, 9, 9}};
        for (int shade = 0; shade < 2; shade++) {
            for (int sighting = 0; sighting < 4; sighting++) {
                CHECK.due("price(" + shade + ", " + sighting + ")", x.price(shade, sighting), want[shade][sighting]);
            }
        }
        Guilds.tell(x, Guilds.SMALL.replace("price fee*2 when wet=1;", ""));
        CHECK.due("without the first RULE", x.price(0, 1), 5 + 1);
        Guilds.tell(x, "traits t 1 1;person p 1;place x;seen p at x hour 0 light 0 dry;shade s fee 42 1 fakes 0;");
        CHECK.due("without a RULE", x.price(0, 0), 42);
    }

    private static void findsTheBest() {
        HiredShades x = Guilds.made(Guilds.SMALL);
        CHECK.due("best of like ones", x.best(0, true, 0), 0);
        CHECK.due("best, whatever least", x.best(0, true, 5000), 0);
        CHECK.due("best of SIGHTING 3", x.best(3, true, 0), 1);
        CHECK.due("cheapest", x.best(3, false, 552), 0);
        CHECK.due("cheapest that passes by 553", x.best(3, false, 553), 1);
        CHECK.due("cheapest by less than 0", x.best(3, false, LOW), 0);
        CHECK.due("none passes by 1001", x.best(3, false, 1001), -1);
        CHECK.due("none passes by so much", x.best(3, false, HIGH), -1);
        HiredShades y = Guilds.made("traits t 1 1;person p 1;place x;seen p at x hour 0 light 0 dry;"
                + "shade s fee 9 1 fakes 0;shade u fee 4 1 fakes 0;shade v fee 4 1 fakes 0;");
        CHECK.due("cheapest, of like ones the first", y.best(0, false, 0), 1);
        Guilds.tell(y, "traits t 1 1;person p 1;place x;seen p at x hour 0 light 0 dry;");
        CHECK.due("no SHADE", y.best(0, true, 0), -1);
        CHECK.due("no SHADE", y.best(0, false, 0), -1);
    }

    private static void weighsBodies() {
        HiredShades x = Guilds.made(Guilds.SMALL);
        // ann can't be at 0 and 1; bob was seen once
        whose(x, 0, 0, 500, 500);
        whose(x, 1, 0, 500, 500);
        whose(x, 2, 333, 333, 333);
        whose(x, 3, 1000 * 1000 / 2552, 552 * 1000 / 2552, 1000 * 1000 / 2552);
    }

    private static void whose(HiredShades x, int sighting, int... want) {
        for (int k = 0; k < want.length; k++) {
            CHECK.due("whose(" + sighting + ", " + (k - 1) + ")", x.whose(sighting, k - 1), want[k]);
        }
    }

    private static void weighsHiredBodies() {
        HiredShades x = Guilds.made(Guilds.SMALL);
        x.hire(1, 0);
        // 0 is ann's now: 1 is a SHADE's, and sam is at 1 when he would have to be at 0
        whose(x, 0, 1000 * 1000 / 1900, 0, 900 * 1000 / 1900);
        // what sam has here himself does not hinder him here
        whose(x, 1, 0, 500, 500);
        whose(x, 3, 500, 0, 500);
        x.hire(2, 0);
        x.hire(0, 1);
        whose(x, 1, 1000 * 1000 / 1600, 600 * 1000 / 1600, 0);
    }

    private static void weighsNothing() {
        HiredShades x = Guilds.made("traits t 100 100;person p 1;place x;place y;seen p at x hour 0 light 100 dry;"
                + "seen p at y hour 0 light 100 dry;shade s fee 1 2 fakes 0;");
        whose(x, 0, 0, 0);
        // these two clash among themselves, but not with the third
        Guilds.tell(x, "traits t 100 100;person p 1;place x;place y;place z;road x y 9;road x z 9;road y z 9;"
                + "seen p at x hour 0 light 100 dry;seen p at y hour 0 light 100 dry;"
                + "seen p at z hour 20 light 100 dry;shade s fee 1 2 fakes 0;");
        whose(x, 2, 1000, 0);
        whose(x, 0, 0, 0);
    }
}
