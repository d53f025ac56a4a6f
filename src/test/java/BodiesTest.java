/** Promises 20 and 21: could and ways. */
public final class BodiesTest {
    private static final Check CHECK = new Check("BodiesTest");
    private static final int LOW = Integer.MIN_VALUE;
    private static final int HIGH = Integer.MAX_VALUE;
    private static final String PLACES = "traits t 10 10;person p 1;person q 1;place a;place b;place c;"
            + "road a b 2;";

    public static void main(String[] args) {
        personsCould();
        shadesCould();
        refusesCould();
        waysOfPersons();
        waysByPass();
        waysBesidesHires();
        waysOfManySightings();
        CHECK.end();
    }

    private static void personsCould() {
        HiredShades x = Guilds.made(PLACES + "seen p at a hour 10 light 1 dry;seen q at b hour 10 light 1 dry;"
                + "seen q at b hour 20 light 1 dry;shade s fee 1 1 fakes 1;");
        CHECK.due("a at 10", x.could(0, 10, false), 1);
        CHECK.due("b at 10", x.could(1, 10, false), 2);
        CHECK.due("b at 11", x.could(1, 11, false), 2);
        CHECK.due("b at 12", x.could(1, 12, false), 3);
        CHECK.due("b at 8", x.could(1, 8, false), 3);
        CHECK.due("a at 19", x.could(0, 19, false), 1);
        CHECK.due("a at 18", x.could(0, 18, false), 3);
        CHECK.due("a at 0", x.could(0, 0, false), 3);
        CHECK.due("a at 99", x.could(0, 99, false), 3);
        CHECK.due("c at 50 is out of reach", x.could(2, 50, false), 0);
        x.hire(2, 0);
        CHECK.due("a at 19 but for the HIRED one", x.could(0, 19, false), 3);
        x.hire(0, 0);
        CHECK.due("c at 50 for one seen nowhere", x.could(2, 50, false), 1);
        // clashing among themselves counts for nothing
        Guilds.tell(x, PLACES + "seen p at a hour 10 light 1 dry;seen p at b hour 10 light 1 dry;");
        CHECK.due("a at 12, clashing elsewhere", x.could(0, 12, false), 3);
        CHECK.due("a at 11, clashing elsewhere", x.could(0, 11, false), 2);
    }

    private static void shadesCould() {
        HiredShades x = Guilds.made(PLACES + "seen p at a hour 10 light 1 dry;seen q at b hour 20 light 1 dry;"
                + "shade s fee 1 1 fakes 1;shade u fee 1 1 fakes 1;shade v fee 1 1 fakes 1;");
        CHECK.due("all at first", x.could(2, 10, true), 7);
        x.hire(0, 1);
        CHECK.due("not u in c", x.could(2, 10, true), 5);
        CHECK.due("not u in b at 11", x.could(1, 11, true), 5);
        CHECK.due("u in b at 12", x.could(1, 12, true), 7);
        CHECK.due("u in a at 10", x.could(0, 10, true), 7);
        x.hire(1, 2);
        CHECK.due("neither in c", x.could(2, 15, true), 1);
        CHECK.due("no SHADES, no bits", new HiredShades().could(0, 0, true), -1);
        CHECK.due("no SHADES, no bits", Guilds.made(PLACES).could(0, 0, true), 0);
    }

    private static void refusesCould() {
        HiredShades x = Guilds.made(PLACES);
        for (boolean shades : new boolean[] {false, true}) {
            for (int none : new int[] {-1, 3, 8, LOW, HIGH}) {
                CHECK.due("could of no PLACE", x.could(none, 0, shades), -1);
            }
            for (int none : new int[] {-1, 100, LOW, HIGH}) {
                CHECK.due("could of no HOUR", x.could(0, none, shades), -1);
            }
        }
        CHECK.due("could at 0", x.could(0, 0, false), 3);
        CHECK.due("could at 99", x.could(0, 99, false), 3);
    }

    private static void waysOfPersons() {
        HiredShades x = Guilds.made(PLACES + "seen p at a hour 1 light 1 dry;seen q at b hour 1 light 1 dry;");
        CHECK.due("each himself", x.ways(0), 1);
        CHECK.due("each himself", x.ways(5000), 1);
        CHECK.due("ways(-1)", x.ways(-1), -1);
        CHECK.due("ways(low)", x.ways(LOW), -1);
        CHECK.due("ways(high)", x.ways(HIGH), 1);
        Guilds.tell(x, PLACES + "seen p at a hour 1 light 1 dry;seen p at b hour 1 light 1 dry;");
        CHECK.due("no way", x.ways(0), 0);
        Guilds.tell(x, PLACES);
        CHECK.due("nothing seen", x.ways(0), 1);
    }

    private static void waysByPass() {
        // pass of u: 1000 * (10000 - 10 * 50) / 10000 = 950
        String shades = "shade s fee 1 1 fakes 0;shade u fee 1 2 fakes 0;";
        HiredShades x = Guilds.made(PLACES + shades + "seen p at a hour 1 light 50 dry;seen p at b hour 1 light 50 dry;");
        // two unlike ones of three bodies
        CHECK.due("ways(0)", x.ways(0), 6);
        CHECK.due("ways(950)", x.ways(950), 6);
        CHECK.due("ways(951)", x.ways(951), 2);
        CHECK.due("ways(1000)", x.ways(1000), 2);
        CHECK.due("ways(1001)", x.ways(1001), 0);
        Guilds.tell(x, PLACES + shades + "seen p at a hour 1 light 50 dry;seen p at b hour 3 light 50 dry;");
        CHECK.due("ways(0) when one body can", x.ways(0), 9);
        CHECK.due("ways(951) when one body can", x.ways(951), 4);
        Guilds.tell(x, PLACES + shades + "seen p at a hour 1 light 50 dry;seen q at b hour 1 light 50 dry;");
        CHECK.due("ways(0) of two PERSONS", x.ways(0), 7);
    }

    private static void waysBesidesHires() {
        HiredShades x = Guilds.made(PLACES + "shade s fee 1 1 fakes 0;shade u fee 1 1 fakes 0;"
                + "seen p at a hour 1 light 50 dry;seen p at b hour 1 light 50 dry;seen q at b hour 2 light 50 dry;");
        // 0 by p, by s, by u; 1 and 2 in one PLACE, but not by that one (2 is not p's anyhow)
        CHECK.due("ways of all", x.ways(0), 2 * 3 + 2 * 2 + 2 * 2);
        x.hire(0, 0);
        CHECK.due("ways besides s in a", x.ways(0), 4);
        x.hire(2, 1);
        CHECK.due("ways besides s and u", x.ways(0), 2);
        x.hire(1, 1);
        CHECK.due("nothing left to lead", x.ways(0), 1);
    }

    private static void waysOfManySightings() {
        StringBuilder text = new StringBuilder(PLACES);
        for (char name = 's'; name <= 'w'; name++) {
            text.append("shade ").append(name == 't' ? 'x' : name).append(" fee 1 1 fakes 0;");
        }
        for (int n = 0; n < 8; n++) {
            text.append("seen p at a hour ").append(n).append(" light 0 dry;");
        }
        HiredShades x = Guilds.made(text.toString());
        CHECK.due("ways of eight", x.ways(0), 1679616);
        text.append("seen p at a hour 9 light 0 dry;");
        Guilds.tell(x, text.toString());
        CHECK.due("ways of nine", x.ways(0), -1);
        x.hire(8, 4);
        CHECK.due("ways of eight besides one", x.ways(0), 1679616);
        x.undo();
        CHECK.due("ways of nine again", x.ways(0), -1);
    }
}
