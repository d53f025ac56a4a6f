/** The edges of promises 15 to 21: canBe, chain, shades, must, clash, could, ways. */
public final class EdgesOfPlacesTest {
    private static final Edges EDGES = new Edges("EdgesOfPlacesTest");
    private static final int LOW = Edges.LOW;
    private static final int HIGH = Edges.HIGH;
    /** 24 SIGHTINGS of p, by turns at a and at d, which can't be reached from a. */
    private static final String FULL = full();

    public static void main(String[] args) {
        canBe();
        canBeOfNone();
        chains();
        chainsOfNone();
        fewestShades();
        fewestShadesOfNone();
        must();
        mustOfNone();
        clashes();
        clashesOfNone();
        could();
        couldOfNone();
        ways();
        waysOfNone();
        EDGES.end();
    }

    private static String full() {
        StringBuilder told = new StringBuilder("pa0");
        for (int hour = 1; hour < 24; hour++) {
            told.append(hour % 2 == 0 ? " pa" : " pd").append(hour);
        }
        return told.toString();
    }

    private static void canBe() {
        EDGES.says("Whether one body CAN BE at two unlike SIGHTINGS: 1, 0;");
        HiredShades x = Sightings.seen("pa5 pb7 pb6 qa5");
        EDGES.due("canBe(0, 1)", x.canBe(0, 1), 1);
        EDGES.due("canBe(1, 0)", x.canBe(1, 0), 1);
        EDGES.due("canBe(0, 2)", x.canBe(0, 2), 0);
        EDGES.due("canBe(2, 0)", x.canBe(2, 0), 0);
        EDGES.due("of two PERSONS", x.canBe(0, 3), 1);
        EDGES.due("whoever has them", x.hire(0, 0) && x.hire(1, 1) ? x.canBe(0, 1) : 0, 1);
        HiredShades most = Sightings.seen(FULL);
        EDGES.due("canBe(0, 22)", most.canBe(0, 22), 1);
        EDGES.due("canBe(0, 23)", most.canBe(0, 23), 0);
        EDGES.due("canBe(23, 1)", most.canBe(23, 1), 1);
    }

    private static void canBeOfNone() {
        EDGES.says("NONE when there are none such.");
        HiredShades x = Sightings.seen("pa5 pb7 pb6");
        for (int one = 0; one < 3; one++) {
            EDGES.due("canBe(" + one + ", " + one + ")", x.canBe(one, one), -1);
            for (int none : new int[] {3, 4, 24, 31, 32, -1, LOW, HIGH}) {
                EDGES.due("canBe(" + one + ", " + none + ")", x.canBe(one, none), -1);
                EDGES.due("canBe(" + none + ", " + one + ")", x.canBe(none, one), -1);
            }
        }
        EDGES.due("canBe(3, 4)", x.canBe(3, 4), -1);
        EDGES.due("canBe(-1, -2)", x.canBe(-1, -2), -1);
        HiredShades most = Sightings.seen(FULL);
        EDGES.due("canBe(23, 24)", most.canBe(23, 24), -1);
        EDGES.due("canBe(24, 23)", most.canBe(24, 23), -1);
        EDGES.due("canBe(23, 23)", most.canBe(23, 23), -1);
    }

    private static void chains() {
        EDGES.says("THE LONGEST CHAIN of a PERSON: how many (k NONE), the k-th SIGHTING;");
        HiredShades x = Sightings.seen(FULL);
        EDGES.due("how many", x.chain(0, -1), 12);
        for (int k = 0; k < 12; k++) {
            EDGES.due("chain(0, " + k + ")", x.chain(0, k), 2 * k);
        }
        EDGES.due("how many of one not seen", x.chain(2, -1), 0);
        EDGES.due("one of them is a SHADE's", x.hire(0, 0) ? x.chain(0, -1) : 0, 12);
        EDGES.due("chain(0, 0)", x.chain(0, 0), 1);
        EDGES.due("chain(0, 11)", x.chain(0, 11), 23);
        HiredShades all = Guilds.made(Sightings.AHEAD + "seen r at a hour 9 light 1 dry;".repeat(24));
        EDGES.due("all 24", all.chain(2, -1), 24);
        EDGES.due("the 24th", all.chain(2, 23), 23);
    }

    private static void chainsOfNone() {
        EDGES.says("NONE when there is none such.");
        HiredShades x = Sightings.seen(FULL);
        for (int person : new int[] {3, 4, 8, -1, LOW, HIGH}) {
            EDGES.due("chain(" + person + ", NONE)", x.chain(person, -1), -1);
            EDGES.due("chain(" + person + ", 0)", x.chain(person, 0), -1);
        }
        for (int k : new int[] {12, 13, 24, -2, LOW, HIGH}) {
            EDGES.due("chain(0, " + k + ")", x.chain(0, k), -1);
        }
        EDGES.due("the first of one not seen", x.chain(2, 0), -1);
        EDGES.due("the last PERSON", x.chain(2, -1), 0);
    }

    private static void fewestShades() {
        EDGES.says("THE FEWEST SHADES of a PERSON (NONE: of all PERSONS together);");
        HiredShades x = Sightings.seen("pa5 pb5 qa5 qb5 qc5 ra5 ra6");
        EDGES.due("shades(0)", x.shades(0), 1);
        EDGES.due("shades(1)", x.shades(1), 2);
        EDGES.due("shades(2)", x.shades(2), 0);
        EDGES.due("shades(NONE)", x.shades(-1), 3);
        EDGES.due("of 24", Sightings.seen(FULL).shades(0), 12);
        EDGES.due("of none seen", Guilds.made(Sightings.AHEAD).shades(-1), 0);
        EDGES.due("of no PERSONS", Guilds.made("traits t 1 1;").shades(-1), 0);
        EDGES.due("of no GUILD", new HiredShades().shades(-1), 0);
    }

    private static void fewestShadesOfNone() {
        EDGES.says("NONE when there is none such.");
        HiredShades x = Sightings.seen("pa5 pb5");
        for (int none : new int[] {3, 4, 8, -2, LOW, HIGH}) {
            EDGES.due("shades(" + none + ")", x.shades(none), -1);
        }
        EDGES.due("shades(0) of no GUILD", new HiredShades().shades(0), -1);
    }

    private static void must() {
        EDGES.says("Of a SIGHTING that no SHADE has: 2 HIMSELF, 0 MUST BE a SHADE's, 1 else;");
        HiredShades x = Sightings.seen("pa5 pa6 pb6 qa5 qb5");
        int[] want = {2, 2, 0, 1, 1};
        for (int sighting = 0; sighting < 5; sighting++) {
            EDGES.due("must(" + sighting + ")", x.must(sighting), want[sighting]);
        }
        HiredShades most = Sightings.seen(FULL);
        EDGES.due("must(23)", most.must(23), 1);
        EDGES.due("one is a SHADE's", most.hire(22, 0) ? most.must(23) : -1, 2);
        EDGES.due("must(0)", most.must(0), 0);
    }

    private static void mustOfNone() {
        EDGES.says("NONE when there is none such.");
        HiredShades x = Sightings.seen("pa5 pb5");
        for (int none : new int[] {2, 3, 24, -1, LOW, HIGH}) {
            EDGES.due("must(" + none + ")", x.must(none), -1);
        }
        EDGES.due("a SHADE has it", x.hire(1, 0) ? x.must(1) : 0, -1);
        EDGES.due("the other one", x.must(0), 2);
        EDGES.due("no SHADE has it again", x.undo() ? x.must(1) : -1, 1);
        EDGES.due("must(24)", Sightings.seen(FULL).must(24), -1);
    }

    private static void clash(HiredShades x, int... want) {
        for (int k = 0; k < want.length; k++) {
            EDGES.due("clash(" + k + ")", x.clash(k), want[k]);
        }
        EDGES.due("clash behind them", x.clash(want.length), -1);
    }

    private static void clashes() {
        EDGES.says("The k-th pair of SIGHTINGS of one PERSON, no SHADE's, at both of which it can't be: 100 times the first and"
                + " the second (by the first, then the second);");
        clash(Sightings.seen("pa5 pb6"), 1);
        clash(Sightings.seen("pa5 pb7"));
        clash(Sightings.seen("pa5 qb5"));
        clash(Sightings.seen("pa5 qa5 pb5 qb5 pc5"), 2, 4, 103, 204);
        clash(Sightings.hired("pa5 qa5 pb5 qb5 pc5", 0), 103, 204);
        clash(Sightings.hired("pa5 qa5 pb5 qb5 pc5", -1, -1, 0), 4, 103);
        clash(Sightings.hired("pa5 qa5 pb5 qb5 pc5", -1, 1, 0), 4);
        HiredShades most = Sightings.seen(FULL);
        EDGES.due("the last of 144", most.clash(143), 2223);
        EDGES.due("behind it", most.clash(144), -1);
        EDGES.due("the last with 0", most.clash(11), 23);
        EDGES.due("the first with 1", most.clash(12), 102);
        HiredShades all = Guilds.made(Sightings.AHEAD.replace("road a b 2;", "") + Sightings.text("pa1 pb1 pc1 pd1 pb2 pa2"));
        clash(all, 1, 2, 3, 4, 102, 103, 105, 203, 204, 205, 304, 305, 405);
    }

    private static void clashesOfNone() {
        EDGES.says("NONE when there is none such.");
        for (int k : new int[] {1, 2, 24, -1, -2, LOW, HIGH}) {
            EDGES.due("clash(" + k + ") of one", Sightings.seen("pa5 pb6").clash(k), -1);
        }
        for (int k : new int[] {0, 1, -1, LOW, HIGH}) {
            EDGES.due("clash(" + k + ") of none", Sightings.seen("pa5").clash(k), -1);
            EDGES.due("clash(" + k + ") of nothing", new HiredShades().clash(k), -1);
        }
    }

    private static void could() {
        EDGES.says("COULD BE in a PLACE at an HOUR (0 .. 99): PERSONS (shades false), SHADES, as bits;");
        HiredShades x = Sightings.seen("pa0 qa99");
        EDGES.due("b at 0", x.could(1, 0, false), 6);
        EDGES.due("b at 1", x.could(1, 1, false), 6);
        EDGES.due("b at 2", x.could(1, 2, false), 7);
        EDGES.due("b at 97", x.could(1, 97, false), 7);
        EDGES.due("b at 98", x.could(1, 98, false), 5);
        EDGES.due("b at 99", x.could(1, 99, false), 5);
        EDGES.due("d at 50", x.could(3, 50, false), 4);
        EDGES.due("SHADES in d at 50", x.could(3, 50, true), 3);
        EDGES.due("s is at a at 0", x.hire(0, 0) ? x.could(1, 1, true) : 0, 2);
        EDGES.due("nobody but SHADES", x.could(1, 1, false), 7);
        StringBuilder text = new StringBuilder("traits t 1 1;place a;");
        for (char name = 'b'; name <= 'i'; name++) {
            text.append("person ").append(name).append(" 1;");
            text.append(name <= 'f' ? "shade s" + name + " fee 1 1 fakes 0;" : "");
        }
        EDGES.due("all eight", Guilds.made(text.toString()).could(0, 0, false), 255);
        EDGES.due("all five", Guilds.made(text.toString()).could(0, 99, true), 31);
        EDGES.due("of nobody", Guilds.made("traits t 1 1;place a;").could(0, 0, false), 0);
        EDGES.due("of no SHADES", Guilds.made("traits t 1 1;place a;").could(0, 0, true), 0);
    }

    private static void couldOfNone() {
        EDGES.says("NONE when something can't be.");
        HiredShades x = Sightings.seen("pa0");
        for (boolean shades : new boolean[] {false, true}) {
            EDGES.due("the last PLACE", x.could(3, 0, shades) >= 0, true);
            for (int none : new int[] {4, 5, 8, -1, LOW, HIGH}) {
                EDGES.due("could(" + none + ", 0)", x.could(none, 0, shades), -1);
            }
            for (int none : new int[] {100, 101, -1, LOW, HIGH}) {
                EDGES.due("could(0, " + none + ")", x.could(0, none, shades), -1);
            }
        }
    }

    private static void ways() {
        EDGES.says("ALL TRUE, by PASS not below so much (0 at least): how many ways;");
        HiredShades x = Guilds.made("traits t 100 100;person p 1;place a;shade s fee 1 2 fakes 0;shade u fee 1 1 fakes 0;"
                + "seen p at a hour 1 light 100 dry;seen p at a hour 1 light 0 dry;");
        EDGES.due("ways(0): by PASS 0, too", x.ways(0), 9);
        EDGES.due("ways(1)", x.ways(1), 6);
        EDGES.due("ways(1000)", x.ways(1000), 6);
        EDGES.due("ways(1001)", x.ways(1001), 1);
        EDGES.due("ways(most)", x.ways(HIGH), 1);
        EDGES.due("of nothing seen", Guilds.made("traits t 1 1;").ways(0), 1);
        EDGES.due("of no GUILD", new HiredShades().ways(1000), 1);
        EDGES.due("no way", Sightings.seen("pa5 pb5").ways(1001), 0);
    }

    private static void waysOfNone() {
        EDGES.says("NONE when something can't be.");
        HiredShades x = Sightings.seen("pa1 pa2 pa3 pa4 pa5 pa6 pa7 pa8 pa9");
        EDGES.due("ways(-1)", Sightings.seen("pa5").ways(-1), -1);
        EDGES.due("ways(least)", Sightings.seen("pa5").ways(LOW), -1);
        EDGES.due("ways(-1) of nothing", new HiredShades().ways(-1), -1);
        EDGES.due("of nine", x.ways(0), -1);
        EDGES.due("of eight", x.hire(8, 0) ? x.ways(0) : 0, 6561);
        EDGES.due("of eight, by -1", x.ways(-1), -1);
    }
}
