/** Promises 24 to 26: crew, take, crowd. */
public final class CrewsTest {
    private static final Check CHECK = new Check("CrewsTest");
    private static final int LOW = Integer.MIN_VALUE;
    private static final int HIGH = Integer.MAX_VALUE;
    private static final String PLACES = "traits t 10 10;person p 1;place a;place b;road a b 3;";

    public static void main(String[] args) {
        findsTheCheapest();
        refusesCrews();
        firstOfLikeOnes();
        minsPass();
        besidesWhatTheyHave();
        crewsOfSeven();
        takes();
        crowds();
        crowdsBesidesHires();
        refusesCrowds();
        CHECK.end();
    }

    private static void crew(HiredShades x, int sightings, int least, int price, int... shades) {
        String call = "crew(" + sightings + ", " + least + ", ";
        CHECK.due(call + "NONE)", x.crew(sightings, least, -1), price);
        for (int k = 0; k < shades.length; k++) {
            CHECK.due(call + k + ")", x.crew(sightings, least, k), shades[k]);
        }
        for (int none : new int[] {shades.length, 7, -2, LOW, HIGH}) {
            CHECK.due(call + none + ")", x.crew(sightings, least, none), -1);
        }
    }

    private static void findsTheCheapest() {
        HiredShades x = Guilds.made(Guilds.SMALL);
        // the dear one for 0, as 1 costs twice the fee
        crew(x, 3, 0, 19, 1, 0);
        crew(x, 7, 0, 24, 1, 0, 0);
        crew(x, 5, 0, 10, 0, 0);
        crew(x, 8, 0, 7, 0);
        crew(x, 8, 553, 9, 1);
        crew(x, 0, 0, 0);
        CHECK.due("nothing is HIRED", x.has(7), 0);
        CHECK.due("nothing was done", x.has(8), 0);
    }

    private static void refusesCrews() {
        HiredShades x = Guilds.made(Guilds.SMALL);
        crew(x, 16, 0, -1);
        crew(x, 17, 0, -1);
        crew(x, -1, 0, -1);
        crew(x, LOW, 0, -1);
        crew(x, LOW + 1, 0, -1);
        crew(x, HIGH, 0, -1);
        crew(x, 1, -1, -1);
        crew(x, 0, -1, -1);
        crew(x, 1, LOW, -1);
        crew(x, 1, 1001, -1);
        crew(x, 1, HIGH, -1);
        crew(x, 0, HIGH, 0);
        crew(x, 2, 601, -1);
        crew(x, 11, 0, -1);
        x.hire(2, 1);
        crew(x, 4, 0, -1);
        crew(x, 6, 0, -1);
        CHECK.due("take of what a SHADE has", x.take(6, 0), -1);
        crew(Guilds.made(PLACES + "seen p at a hour 1 light 1 dry;"), 1, 0, -1);
    }

    private static void firstOfLikeOnes() {
        String shades = "shade s fee 5 1 fakes 0;shade u fee 5 1 fakes 0;shade v fee 5 1 fakes 0;";
        HiredShades x = Guilds.made(PLACES + shades + "seen p at a hour 1 light 1 dry;seen p at b hour 1 light 1 dry;"
                + "seen p at a hour 3 light 1 dry;seen p at b hour 5 light 1 dry;seen p at b hour 6 light 1 dry;");
        crew(x, 1, 0, 5, 0);
        crew(x, 3, 0, 10, 0, 1);
        crew(x, 7, 0, 15, 0, 1, 0);
        crew(x, 14, 0, 15, 0, 1, 0);
        crew(x, 12, 0, 10, 0, 1);
        crew(x, 20, 0, 10, 0, 0);
        crew(x, 31, 0, 25, 0, 1, 0, 1, 0);
        // of like PRICES by the first SIGHTING's SHADE, not by fees
        Guilds.tell(x, PLACES + "shade s fee 9 1 fakes 0;shade u fee 4 1 fakes 0;shade v fee 4 1 fakes 0;"
                + "seen p at a hour 1 light 1 dry;seen p at b hour 1 light 1 dry;price 6 when all;");
        crew(x, 3, 0, 12, 0, 1);
        // 0, 1 costs 6 + 4, 1, 0 costs 4 + 6
        Guilds.tell(x, PLACES + "shade s fee 6 1 fakes 0;shade u fee 4 1 fakes 0;"
                + "seen p at a hour 1 light 1 dry;seen p at b hour 1 light 1 dry;");
        crew(x, 3, 0, 10, 0, 1);
    }

    private static void minsPass() {
        // pass of s: 1000 * (10000 - 10 * 50) / 10000 = 950
        HiredShades x = Guilds.made(PLACES + "shade s fee 1 2 fakes 0;shade u fee 99 1 fakes 0;"
                + "seen p at a hour 1 light 50 dry;seen p at a hour 2 light 0 dry;");
        crew(x, 3, 950, 2, 0, 0);
        crew(x, 3, 951, 100, 1, 0);
        crew(x, 3, 1000, 100, 1, 0);
        CHECK.due("take by 951", x.take(3, 951), 100);
        CHECK.due("seen(0, 5)", x.seen(0, 5), 1);
        CHECK.due("seen(1, 5)", x.seen(1, 5), 0);
    }

    private static void besidesWhatTheyHave() {
        HiredShades x = Guilds.made(PLACES + "shade s fee 1 1 fakes 0;shade u fee 9 1 fakes 0;"
                + "seen p at a hour 1 light 1 dry;seen p at b hour 3 light 1 dry;seen p at b hour 4 light 1 dry;");
        crew(x, 6, 0, 2, 0, 0);
        x.hire(0, 0);
        crew(x, 6, 0, 10, 1, 0);
        x.hire(0, 1);
        crew(x, 6, 0, 2, 0, 0);
        x.hire(0, -1);
        x.hire(2, 0);
        crew(x, 3, 0, 10, 0, 1);
    }

    private static void crewsOfSeven() {
        StringBuilder text = new StringBuilder(PLACES);
        for (String name : new String[] {"s", "u", "v", "w", "x"}) {
            text.append("shade ").append(name).append(" fee 99 1 fakes 0;");
        }
        for (int n = 0; n < 24; n++) {
            text.append("seen p at ").append(n % 2 == 0 ? "a" : "b").append(" hour 1 light 0 dry;");
        }
        HiredShades x = Guilds.made(text + "price 999 when all;");
        crew(x, 127, 0, 6993, 0, 1, 0, 1, 0, 1, 0);
        crew(x, 255, 0, -1);
        crew(x, 127 << 17, 0, 6993, 0, 1, 0, 1, 0, 1, 0);
        CHECK.due("take of eight", x.take(255, 0), -1);
        x.hire(0, 4);
        x.hire(1, 0);
        x.hire(3, 1);
        crew(x, 1 << 4 | 1 << 5, 0, 1998, 2, 0);
        x.hire(2, 4);
        crew(x, 127 << 17, 0, 6993, 0, 2, 0, 2, 0, 2, 0);
        Guilds.tell(x, text + "price (4-hour)*0 when all;");
        crew(x, 127, 0, 0, 0, 1, 0, 1, 0, 1, 0);
    }

    private static void takes() {
        HiredShades x = Guilds.made(Guilds.SMALL);
        for (int[] bad : new int[][] {{0, 0}, {16, 0}, {1, -1}, {2, 601}, {LOW, 0}, {-1, 0}}) {
            CHECK.due("take(" + bad[0] + ", " + bad[1] + ")", x.take(bad[0], bad[1]), -1);
        }
        CHECK.due("nothing was done", x.has(8), 0);
        CHECK.due("take(3, 0)", x.take(3, 0), 19);
        CHECK.due("seen(0, 5)", x.seen(0, 5), 1);
        CHECK.due("seen(1, 5)", x.seen(1, 5), 0);
        CHECK.due("seen(2, 5)", x.seen(2, 5), -1);
        CHECK.due("take again", x.take(1, 0), -1);
        CHECK.due("take(4, 0)", x.take(4, 0), 5);
        CHECK.due("seen(2, 5)", x.seen(2, 5), 0);
        CHECK.due("take(8, 0): nobody is left", x.take(8, 0), -1);
        CHECK.due("two acts", x.has(8), 2);
    }

    private static void crowd(HiredShades x, int place, int hour, int fees, int... shades) {
        int n = shades.length;
        String call = "crowd(" + place + ", " + hour + ", " + n + ", ";
        CHECK.due(call + "NONE)", x.crowd(place, hour, n, -1), fees);
        for (int k = 0; k < n; k++) {
            CHECK.due(call + k + ")", x.crowd(place, hour, n, k), shades[k]);
        }
        for (int none : new int[] {n, 5, -2, LOW, HIGH}) {
            CHECK.due(call + none + ")", x.crowd(place, hour, n, none), -1);
        }
    }

    private static HiredShades five() {
        return Guilds.made(PLACES + "shade s fee 7 1 fakes 0;shade u fee 3 1 fakes 0;shade v fee 7 1 fakes 0;"
                + "shade w fee 3 1 fakes 0;shade x fee 99 1 fakes 0;seen p at a hour 10 light 1 dry;"
                + "seen p at b hour 20 light 1 dry;price 500 when all;");
    }

    private static void crowds() {
        HiredShades x = five();
        crowd(x, 0, 0, 3, 1);
        crowd(x, 0, 99, 6, 1, 3);
        crowd(x, 1, 5, 13, 1, 3, 0);
        crowd(x, 1, 5, 20, 1, 3, 0, 2);
        crowd(x, 1, 5, 119, 1, 3, 0, 2, 4);
    }

    private static void crowdsBesidesHires() {
        HiredShades x = five();
        x.hire(0, 1);
        crowd(x, 0, 10, 6, 1, 3);
        crowd(x, 1, 12, 10, 3, 0);
        crowd(x, 1, 13, 6, 1, 3);
        crowd(x, 1, 8, 10, 3, 0);
        crowd(x, 1, 7, 6, 1, 3);
        x.hire(1, 0);
        crowd(x, 0, 18, 13, 1, 3, 2);
        CHECK.due("not so many", x.crowd(0, 18, 5, -1), -1);
        CHECK.due("not so many", x.crowd(0, 18, 5, 0), -1);
        crowd(x, 0, 18, 112, 1, 3, 2, 4);
    }

    private static void refusesCrowds() {
        HiredShades x = five();
        for (int none : new int[] {-1, 2, 8, LOW, HIGH}) {
            CHECK.due("no PLACE", x.crowd(none, 0, 1, -1), -1);
        }
        for (int none : new int[] {-1, 100, LOW, HIGH}) {
            CHECK.due("no HOUR", x.crowd(0, none, 1, -1), -1);
        }
        for (int none : new int[] {0, -1, 6, LOW, HIGH}) {
            CHECK.due("no n", x.crowd(0, 0, none, -1), -1);
            CHECK.due("no n", x.crowd(0, 0, none, 0), -1);
        }
        CHECK.due("no SHADES", Guilds.made(PLACES).crowd(0, 0, 1, -1), -1);
    }
}
