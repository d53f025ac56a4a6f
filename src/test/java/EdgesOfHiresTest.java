/** The edges of promises 22 to 27: hire, undo, crew, take, crowd, shade. */
public final class EdgesOfHiresTest {
    private static final Edges EDGES = new Edges("EdgesOfHiresTest");
    private static final int LOW = Edges.LOW;
    private static final int HIGH = Edges.HIGH;
    /** s has 0; FAR apart in HOURS are 0 and 1, not 0 and 2; u has 3. */
    private static final Edges.Act BUSY = x -> {
        Guilds.tell(x, Sightings.AHEAD + Sightings.text("pa5 pb6 pb7 qd9 ra5"));
        x.hire(0, 1);
        x.hire(0, 0);
        x.hire(3, 1);
        x.seed(5);
        x.image();
    };

    public static void main(String[] args) {
        hires();
        hiresRefused();
        undoes();
        undoesThirty();
        undoesNothing();
        crews();
        crewsOfNone();
        takes();
        takesRefused();
        crowds();
        crowdsOfNone();
        shadesHave();
        shadesOfNone();
        EDGES.end();
    }

    private static HiredShades busy() {
        HiredShades x = new HiredShades();
        BUSY.on(x);
        return x;
    }

    private static void hires() {
        EDGES.says("A SIGHTING has a SHADE (NONE: none) from now on: true;");
        HiredShades x = busy();
        EDGES.due("hire(2, 0)", x.hire(2, 0), true);
        EDGES.due("it has it", x.seen(2, 5), 0);
        EDGES.due("another one's", x.hire(2, 1), false);
        EDGES.due("hire(0, 1): it is u's, who can't", x.hire(0, 1), false);
        EDGES.due("hire(0, NONE)", x.hire(0, -1), true);
        EDGES.due("it has none", x.seen(0, 5), -1);
        EDGES.due("hire(1, 0): 0 is not s's any more", x.hire(1, 0), true);
        EDGES.due("it has it", x.seen(1, 5), 0);
        EDGES.due("hire(3, 0): s is out of reach", x.hire(3, 0), false);
        EDGES.due("hire(3, NONE)", x.hire(3, -1), true);
        EDGES.due("hire(1, 1): from s to u", x.hire(1, 1), true);
        EDGES.due("it is u's", x.seen(1, 5), 1);
        EDGES.due("s has one", x.shade(0, 0), 1);
        EDGES.due("u has one", x.shade(1, 0), 1);
        HiredShades full = Guilds.made("traits t 1 1;person p 1;place a;shade r fee 1 1 fakes 0;shade s fee 1 1 fakes 0;"
                + "shade u fee 1 1 fakes 0;shade v fee 1 1 fakes 0;shade w fee 1 1 fakes 0;"
                + "seen p at a hour 1 light 1 dry;".repeat(24));
        EDGES.due("hire(23, 4)", full.hire(23, 4), true);
        EDGES.due("seen(23, 5)", full.seen(23, 5), 4);
        EDGES.due("hire(24, 4)", full.hire(24, 4), false);
        EDGES.due("hire(23, 5)", full.hire(23, 5), false);
    }

    private static void hiresRefused() {
        EDGES.says("false when there are none such, it is so already, or the SHADE CAN'T BE at all it would have.");
        int[][] refused = {{5, 0}, {5, -1}, {24, 0}, {-1, 0}, {-1, -1}, {LOW, 0}, {HIGH, 0}, {1, 2}, {1, -2}, {1, 5}, {1, LOW},
            {1, HIGH}, {0, 0}, {1, -1}, {3, 1}, {1, 0}, {3, 0}, {0, 1}, {1, 1}};
        for (int[] row : refused) {
            String call = "hire(" + row[0] + ", " + row[1] + ")";
            EDGES.due(call, busy().hire(row[0], row[1]), false);
            EDGES.nothingDone(call, BUSY, x -> x.hire(row[0], row[1]));
        }
        EDGES.due("hire(4, 0): in one PLACE and HOUR", busy().hire(4, 0), true);
        EDGES.due("hire(2, 0): two HOURS apart, 2 FAR", busy().hire(2, 0), true);
        EDGES.due("hire(1, 0): an HOUR apart, 2 FAR", busy().hire(1, 0), false);
    }

    private static void undoes() {
        EDGES.says("The latest hire(), or take(), is undone");
        HiredShades x = busy();
        EDGES.due("take(6, 0)", Sightings.hired("pa5 pb6 pb7", 0).take(6, 0), 8);
        EDGES.due("take(4, 0)", x.take(4, 0), 3);
        EDGES.due("hire(4, 0)", x.hire(4, 0), true);
        EDGES.due("undo() of hire", x.undo(), true);
        EDGES.due("seen(4, 5)", x.seen(4, 5), -1);
        EDGES.due("seen(2, 5)", x.seen(2, 5), 0);
        EDGES.due("undo() of take", x.undo(), true);
        EDGES.due("seen(2, 5)", x.seen(2, 5), -1);
        EDGES.due("seen(3, 5)", x.seen(3, 5), 1);
        EDGES.due("undo() of hire", x.undo(), true);
        EDGES.due("seen(3, 5)", x.seen(3, 5), -1);
        EDGES.due("undo() of one from u to s", x.undo(), true);
        EDGES.due("seen(0, 5)", x.seen(0, 5), 1);
        EDGES.due("undo() of the first", x.undo(), true);
        EDGES.due("seen(0, 5)", x.seen(0, 5), -1);
        EDGES.due("undo() of none", x.undo(), false);
        HiredShades two = Sightings.seen("pa5 pb6");
        EDGES.due("take of two", two.take(3, 0), 8);
        EDGES.due("one act", two.has(8), 1);
        EDGES.due("undo()", two.undo(), true);
        EDGES.due("both are undone", two.has(7), 0);
        HiredShades none = Sightings.hired("pa5", 0);
        EDGES.due("hire(0, NONE)", none.hire(0, -1), true);
        EDGES.due("undo()", none.undo(), true);
        EDGES.due("it is s's again", none.seen(0, 5), 0);
    }

    private static void undoesThirty() {
        EDGES.says("(the last 30 can be): true;");
        for (int acts : new int[] {1, 29, 30, 31, 32, 59, 60, 61, 95}) {
            HiredShades x = Sightings.seen("pa5 pa6");
            for (int n = 1; n <= acts; n++) {
                // s, u, none by turns
                x.hire(1, n % 3 - 1);
            }
            int undone = 0;
            while (undone < 40 && x.undo()) {
                undone++;
            }
            EDGES.due("undone of " + acts, undone, Math.min(30, acts));
            int left = Math.max(0, acts - 30);
            EDGES.due("what is left of " + acts, x.seen(1, 5), left == 0 ? -1 : left % 3 - 1);
            EDGES.due("has(8)", x.has(8), 0);
            EDGES.due("hire", x.hire(0, 1), true);
            EDGES.due("undo()", x.undo(), true);
            EDGES.due("undo()", x.undo(), false);
        }
    }

    private static void undoesNothing() {
        EDGES.says("false when none can be.");
        EDGES.due("of a new one", new HiredShades().undo(), false);
        EDGES.due("of a GUILD", Sightings.seen("pa5").undo(), false);
        HiredShades x = Sightings.hired("pa5", 0);
        EDGES.due("refused", x.hire(0, 0), false);
        EDGES.due("refused", x.take(1, 0), -1);
        EDGES.due("undo()", x.undo(), true);
        EDGES.due("undo() again", x.undo(), false);
        EDGES.due("it stays", x.seen(0, 5), -1);
        EDGES.nothingDone("undo()", y -> {
            BUSY.on(y);
            Guilds.load(y, 1, 0, 0, 2, 0, (((((73 * 7 + 1) * 7) * 7) * 7 + 2) * 7) % 251);
        }, y -> y.undo());
    }

    private static void crews() {
        EDGES.says("A CREW for SIGHTINGS with PASS not below so much (0 at least): PRICE together (k NONE), the SHADE of the k-th"
                + " of these SIGHTINGS;");
        HiredShades x = Sightings.seen("pa5 pb6 pb7 pb5");
        EDGES.due("of none", x.crew(0, 0, -1), 0);
        EDGES.due("of none, by the most", x.crew(0, HIGH, -1), 0);
        EDGES.due("of 0", x.crew(1, 0, -1), 3);
        EDGES.due("of 0, by 1000", x.crew(1, 1000, -1), 3);
        EDGES.due("of 3 and 0", x.crew(9, 0, -1), 8);
        EDGES.due("of 3 and 0: 0's", x.crew(9, 0, 0), 0);
        EDGES.due("of 3 and 0: 3's", x.crew(9, 0, 1), 1);
        EDGES.due("of 2 and 3: 3's", x.crew(12, 0, 1), 0);
        EDGES.due("of all", x.crew(15, 0, -1), 14);
        int[] want = {1, 0, 0, 0};
        for (int k = 0; k < 4; k++) {
            EDGES.due("of all: " + k, x.crew(15, 0, k), want[k]);
        }
        HiredShades pass = Guilds.made("traits t 100 100;person p 1;place a;shade s fee 1 2 fakes 0;"
                + "seen p at a hour 1 light 100 dry;");
        EDGES.due("by PASS 0", pass.crew(1, 0, -1), 1);
        EDGES.due("by PASS 1", pass.crew(1, 1, -1), -1);
        EDGES.nothingDone("crew", BUSY, y -> y.crew(22, 0, -1));
        HiredShades seven = Sightings.seen("pa1 pa2 pa3 pa4 pa5 pa6 pa7");
        for (int k = 0; k < 7; k++) {
            EDGES.due("behind ways()", seven.ways(0) > 0 ? seven.crew(127, 0, k) : -1, 0);
        }
    }

    private static void crewsOfNone() {
        EDGES.says("NONE when there is none such, or something can't be.");
        HiredShades x = Sightings.seen("pa5 pb6 pb7 pc5");
        for (int k : new int[] {2, 3, 7, -2, LOW, HIGH}) {
            EDGES.due("crew(3, 0, " + k + ")", x.crew(3, 0, k), -1);
            EDGES.due("crew(0, 0, " + k + ")", x.crew(0, 0, k), -1);
        }
        EDGES.due("crew(0, 0, 0)", x.crew(0, 0, 0), -1);
        for (int least : new int[] {-1, LOW}) {
            EDGES.due("crew(1, " + least + ", NONE)", x.crew(1, least, -1), -1);
            EDGES.due("crew(0, " + least + ", NONE)", x.crew(0, least, -1), -1);
        }
        for (int least : new int[] {1001, HIGH}) {
            EDGES.due("crew(1, " + least + ", NONE)", x.crew(1, least, -1), -1);
            EDGES.due("crew(1, " + least + ", 0)", x.crew(1, least, 0), -1);
        }
        for (int sightings : new int[] {16, 17, 1 << 24, 1 << 30, LOW, LOW + 1, -1, HIGH}) {
            EDGES.due("crew(" + sightings + ", 0, NONE)", x.crew(sightings, 0, -1), -1);
            EDGES.due("crew(" + sightings + ", 0, 0)", x.crew(sightings, 0, 0), -1);
        }
        EDGES.due("three that clash", x.crew(11, 0, -1), -1);
        EDGES.due("three that clash", x.crew(11, 0, 0), -1);
        EDGES.due("a SHADE has one", x.hire(0, 1) ? x.crew(3, 0, -1) : 0, -1);
        EDGES.due("the other one", x.crew(2, 0, -1), 3);
        EDGES.due("no SHADES", Guilds.made("traits t 1 1;person p 1;place a;" + Sightings.text("pa5")).crew(1, 0, -1), -1);
        HiredShades full = Guilds.made(Sightings.AHEAD + "seen p at a hour 1 light 1 dry;".repeat(24));
        EDGES.due("the last one", full.crew(1 << 23, 0, 0), 0);
        EDGES.due("the last seven", full.crew(127 << 17, 0, 6), 0);
        EDGES.due("no 25th", full.crew(1 << 24, 0, -1), -1);
        EDGES.due("one with the 25th", full.crew(3 << 23, 0, -1), -1);
    }

    private static void takes() {
        EDGES.says("Such a CREW is HIRED: PRICE together;");
        HiredShades x = Sightings.seen("pa5 pb6 pb7 pb5");
        EDGES.due("take(9, 0)", x.take(9, 0), 8);
        EDGES.due("0's", x.seen(0, 5), 0);
        EDGES.due("3's", x.seen(3, 5), 1);
        EDGES.due("1's", x.seen(1, 5), -1);
        EDGES.due("one act", x.has(8), 1);
        EDGES.due("take(2, 1000)", x.take(2, 1000), 5);
        EDGES.due("1's: s can't be there", x.seen(1, 5), 1);
        EDGES.due("take(4, 0)", x.take(4, 0), 3);
        EDGES.due("2's: s can be there", x.seen(2, 5), 0);
        EDGES.due("all have one", x.has(7), 4);
        HiredShades seven = Sightings.seen("pa1 pa2 pa3 pa4 pa5 pa6 pa7 pa8");
        EDGES.due("take of seven", seven.take(254, 0), 21);
        EDGES.due("HIRED", seven.has(7), 7);
        EDGES.due("the first", seven.seen(0, 5), -1);
        EDGES.due("the last", seven.seen(7, 5), 0);
    }

    private static void takesRefused() {
        EDGES.says("NONE, doing nothing, likewise, or without SIGHTINGS.");
        int[][] refused = {{0, 0}, {0, 1000}, {1, 0}, {3, 0}, {32, 0}, {34, 0}, {LOW, 0}, {LOW + 2, 0}, {-1, 0}, {HIGH, 0},
            {2, -1}, {2, LOW}, {0, -1}, {2, 1001}, {2, HIGH}, {2, 0}};
        for (int[] row : refused) {
            String call = "take(" + row[0] + ", " + row[1] + ")";
            EDGES.due(call, busy().take(row[0], row[1]), -1);
            EDGES.nothingDone(call, BUSY, x -> x.take(row[0], row[1]));
        }
        HiredShades eight = Sightings.seen("pa1 pa2 pa3 pa4 pa5 pa6 pa7 pa8");
        EDGES.due("take of eight", eight.take(255, 0), -1);
        EDGES.due("nothing was done", eight.has(7) + eight.has(8), 0);
        EDGES.due("take of three that clash", Sightings.seen("pa5 pb5 pc5").take(7, 0), -1);
        EDGES.due("take of nothing", new HiredShades().take(0, 0), -1);
    }

    private static void crowds() {
        EDGES.says("A CROWD of n (1 .. 5): fees together (k NONE), the k-th SHADE of it (by fees, then by numbers);");
        HiredShades x = five();
        int[] order = {2, 0, 3, 4, 1};
        int[] fees = {2, 9, 16, 25, 124};
        for (int n = 1; n <= 5; n++) {
            EDGES.due("crowd of " + n, x.crowd(0, 0, n, -1), fees[n - 1]);
            for (int k = 0; k < n; k++) {
                EDGES.due("crowd of " + n + ": " + k, x.crowd(0, 99, n, k), order[k]);
            }
        }
    }

    private static HiredShades five() {
        return Guilds.made("traits t 1 1;person p 1;place a;place b;road a b 2;shade s fee 7 1 fakes 0;shade u fee 99 1 fakes 0;"
                + "shade v fee 2 1 fakes 0;shade w fee 7 1 fakes 0;shade x fee 9 1 fakes 0;" + Sightings.text("pa5"));
    }

    private static void crowdsOfNone() {
        EDGES.says("NONE when there are not so many, or something can't be.");
        HiredShades x = five();
        for (int n : new int[] {0, -1, 6, 7, LOW, HIGH}) {
            for (int k = -1; k <= 1; k++) {
                EDGES.due("crowd(0, 0, " + n + ", " + k + ")", x.crowd(0, 0, n, k), -1);
            }
        }
        for (int n = 1; n <= 5; n++) {
            for (int k : new int[] {n, n + 1, 5, -2, LOW, HIGH}) {
                EDGES.due("crowd(0, 0, " + n + ", " + k + ")", x.crowd(0, 0, n, k), -1);
            }
        }
        for (int none : new int[] {2, 3, 8, -1, LOW, HIGH}) {
            EDGES.due("crowd(" + none + ", 0, 1, NONE)", x.crowd(none, 0, 1, -1), -1);
            EDGES.due("crowd(" + none + ", 0, 1, 0)", x.crowd(none, 0, 1, 0), -1);
        }
        for (int none : new int[] {100, 101, -1, LOW, HIGH}) {
            EDGES.due("crowd(0, " + none + ", 1, NONE)", x.crowd(0, none, 1, -1), -1);
            EDGES.due("crowd(0, " + none + ", 1, 0)", x.crowd(0, none, 1, 0), -1);
        }
        EDGES.due("the last PLACE and HOUR", x.crowd(1, 99, 5, -1), 124);
        EDGES.due("v is HIRED", x.hire(0, 2), true);
        EDGES.due("four are left", x.crowd(1, 6, 4, -1), 122);
        EDGES.due("not five", x.crowd(1, 6, 5, -1), -1);
        EDGES.due("not five", x.crowd(1, 6, 5, 0), -1);
        EDGES.due("two of two", Sightings.seen("pa5").crowd(0, 0, 2, -1), 8);
        EDGES.due("three of two", Sightings.seen("pa5").crowd(0, 0, 3, -1), -1);
        EDGES.due("one of none", Guilds.made("traits t 1 1;place a;").crowd(0, 0, 1, -1), -1);
        EDGES.nothingDone("crowd", BUSY, y -> y.crowd(0, 0, 2, -1));
    }

    private static void has(HiredShades x, int shade, int... want) {
        for (int what = 0; what < 5; what++) {
            EDGES.due("shade(" + shade + ", " + what + ")", x.shade(shade, what), want[what]);
        }
    }

    private static void shadesHave() {
        EDGES.says("Of a SHADE: 0 SIGHTINGS it has, 1 PRICES of these together, 2 the first of them by HOUR, then by number (NONE"
                + " without), 3 HOURS from the first to the last (0 without), 4 the least PASS (NONE without).");
        HiredShades x = Guilds.made("traits t 100 100;person p 1;place a;shade s fee 1 2 fakes 0;shade u fee 1 1 fakes 0;"
                + "seen p at a hour 99 light 50 dry;seen p at a hour 0 light 40 dry;seen p at a hour 0 light 0 dry;"
                + "seen p at a hour 50 light 100 dry;price 999 when light>0;price 0 when all;");
        has(x, 0, 0, 0, -1, 0, -1);
        has(x, 1, 0, 0, -1, 0, -1);
        EDGES.due("hire(0, 0)", x.hire(0, 0), true);
        has(x, 0, 1, 999, 0, 0, 500);
        EDGES.due("hire(2, 0)", x.hire(2, 0), true);
        has(x, 0, 2, 999, 2, 99, 500);
        EDGES.due("hire(1, 0)", x.hire(1, 0), true);
        has(x, 0, 3, 1998, 1, 99, 500);
        EDGES.due("hire(3, 0)", x.hire(3, 0), true);
        has(x, 0, 4, 2997, 1, 99, 0);
        has(x, 1, 0, 0, -1, 0, -1);
        EDGES.due("hire(3, 1)", x.hire(3, 1), true);
        has(x, 0, 3, 1998, 1, 99, 500);
        has(x, 1, 1, 999, 3, 0, 1000);
        EDGES.due("hire(0, 1)", x.hire(0, 1), true);
        has(x, 0, 2, 999, 1, 0, 600);
        has(x, 1, 2, 1998, 3, 49, 1000);
        HiredShades most = Guilds.made(Sightings.AHEAD + "seen p at a hour 1 light 1 dry;".repeat(24) + "price 999 when all;");
        has(most, 1, 0, 0, -1, 0, -1);
        for (int sighting = 23; sighting >= 0; sighting--) {
            most.hire(sighting, 1);
        }
        has(most, 1, 24, 23976, 0, 0, 1000);
        most.hire(0, -1);
        has(most, 1, 23, 22977, 1, 0, 1000);
        has(Sightings.hired("pa5 pa9 pa7", 0, 0, 0), 0, 3, 9, 0, 4, 1000);
    }

    private static void shadesOfNone() {
        EDGES.says("NONE when there is none such, or for others.");
        HiredShades x = Sightings.hired("pa5", 0);
        for (int none : new int[] {2, 3, 5, -1, LOW, HIGH}) {
            for (int what = 0; what < 5; what++) {
                EDGES.due("shade(" + none + ", " + what + ")", x.shade(none, what), -1);
            }
        }
        for (int what : new int[] {5, 6, -1, LOW, HIGH}) {
            EDGES.due("shade(0, " + what + ")", x.shade(0, what), -1);
            EDGES.due("shade(1, " + what + ")", x.shade(1, what), -1);
        }
    }
}
