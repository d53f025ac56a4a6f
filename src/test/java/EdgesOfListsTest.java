/** The edges of promises 7 to 14: letter, trait, seen, far, pass, price, best, whose. */
public final class EdgesOfListsTest {
    private static final Edges EDGES = new Edges("EdgesOfListsTest");
    private static final int LOW = Edges.LOW;
    private static final int HIGH = Edges.HIGH;
    /** As many of each kind as there can be; no two kinds are as many, but for PERSONS and PLACES. */
    private static final String FULL = full();

    public static void main(String[] args) {
        letters();
        lettersOfNone();
        traits();
        traitsOfNone();
        sightings();
        sightingsOfNone();
        farPlaces();
        farPlacesOfNone();
        passesOfNone();
        pricesOfNone();
        bestByPass();
        bestByPrice();
        whoseOfNone();
        EDGES.end();
    }

    private static String full() {
        StringBuilder text = new StringBuilder("traits a 1 2,b 3 4,c 5 6,d 7 8,e 9 10,f 11 12;");
        for (int n = 0; n < 8; n++) {
            text.append("person p").append((char) ('a' + n)).append(" 1 2 3 4 5 ").append(n).append(';');
            text.append("place x").append((char) ('a' + n)).append(';');
        }
        for (int n = 0; n < 5; n++) {
            text.append("shade s").append((char) ('a' + n)).append(" fee ").append(n + 1).append(" 1 2 3 4 5 ").append(n);
            text.append(" fakes 0 0 0 0 1 ").append(n % 2).append(';');
        }
        for (int n = 0; n < 24; n++) {
            text.append("seen p").append((char) ('a' + n % 8)).append(" at x").append((char) ('a' + n % 8));
            text.append(" hour ").append(n).append(" light 1 dry;");
        }
        return text.toString();
    }

    private static void letters() {
        EDGES.says("Letter k (0 .. 5) of the NAME of a TRAIT (kind 0), PERSON (1), SHADE (2), PLACE (3): 1 .. 26; 0 behind it;");
        HiredShades x = Guilds.made("traits a 1 1,zyxwvu 1 1;person b 1 1;person bz 1 1;shade cccccc fee 1 1 1 fakes 0 0;"
                + "shade c fee 1 1 1 fakes 0 0;place ddddd;place ddd;");
        String[][] names = {{"a", "zyxwvu"}, {"b", "bz"}, {"cccccc", "c"}, {"ddddd", "ddd"}};
        for (int kind = 0; kind < 4; kind++) {
            for (int which = 0; which < 2; which++) {
                for (int k = 0; k < 6; k++) {
                    String name = names[kind][which];
                    EDGES.due("letter(" + kind + ", " + which + ", " + k + ")", x.letter(kind, which, k),
                            k < name.length() ? name.charAt(k) - 96 : 0);
                }
            }
        }
        HiredShades most = Guilds.made(FULL);
        int[] last = {5, 7, 4, 7};
        int[] want = {6, 8, 5, 8};
        for (int kind = 0; kind < 4; kind++) {
            EDGES.due("the last one's", most.letter(kind, last[kind], kind == 0 ? 0 : 1), want[kind]);
        }
    }

    private static void lettersOfNone() {
        EDGES.says("NONE when there is none such.");
        HiredShades x = Guilds.made(FULL);
        int[] count = {6, 8, 5, 8};
        for (int kind = 0; kind < 4; kind++) {
            for (int k : new int[] {6, 7, -1, LOW, HIGH}) {
                EDGES.due("letter(" + kind + ", 0, " + k + ")", x.letter(kind, 0, k), -1);
            }
            for (int which : new int[] {count[kind], count[kind] + 1, -1, LOW, HIGH}) {
                EDGES.due("letter(" + kind + ", " + which + ", 0)", x.letter(kind, which, 0), -1);
            }
        }
        for (int kind : new int[] {4, 5, 6, -1, LOW, HIGH}) {
            EDGES.due("letter(" + kind + ", 0, 0)", x.letter(kind, 0, 0), -1);
        }
    }

    private static void traits() {
        EDGES.says("Of a TRAIT: how much it shows, dry (who NONE, what 0), in rain (1); what PERSON who has (what 2), SHADE who"
                + " has of its own (3), whether that can be another there (4).");
        HiredShades x = Guilds.made(FULL);
        for (int trait = 0; trait < 6; trait++) {
            EDGES.due("dry", x.trait(trait, -1, 0), 2 * trait + 1);
            EDGES.due("in rain", x.trait(trait, -1, 1), 2 * trait + 2);
            for (int who = 0; who < 8; who++) {
                EDGES.due("a PERSON's", x.trait(trait, who, 2), trait < 5 ? trait + 1 : who);
            }
            for (int who = 0; who < 5; who++) {
                EDGES.due("a SHADE's own", x.trait(trait, who, 3), trait < 5 ? trait + 1 : who);
                EDGES.due("a SHADE's", x.trait(trait, who, 4), trait < 4 ? 0 : trait < 5 ? 1 : who % 2);
            }
        }
    }

    private static void traitsOfNone() {
        EDGES.says("NONE when there are none such, or for others.");
        HiredShades x = Guilds.made(FULL);
        for (int trait : new int[] {6, 7, -1, LOW, HIGH}) {
            for (int what = 0; what <= 4; what++) {
                EDGES.due("trait(" + trait + ", .., " + what + ")", x.trait(trait, what < 2 ? -1 : 0, what), -1);
            }
        }
        for (int what = 0; what <= 1; what++) {
            for (int who : new int[] {0, 1, -2, LOW, HIGH}) {
                EDGES.due("trait(0, " + who + ", " + what + ")", x.trait(0, who, what), -1);
            }
        }
        for (int who : new int[] {8, 9, -1, -2, LOW, HIGH}) {
            EDGES.due("trait(0, " + who + ", 2)", x.trait(0, who, 2), -1);
        }
        for (int who : new int[] {5, 6, 7, -1, -2, LOW, HIGH}) {
            EDGES.due("trait(0, " + who + ", 3)", x.trait(0, who, 3), -1);
            EDGES.due("trait(0, " + who + ", 4)", x.trait(0, who, 4), -1);
        }
        for (int what : new int[] {5, 6, -1, LOW, HIGH}) {
            EDGES.due("trait(0, 0, " + what + ")", x.trait(0, 0, what), -1);
            EDGES.due("trait(0, NONE, " + what + ")", x.trait(0, -1, what), -1);
        }
    }

    private static void sightings() {
        EDGES.says("Of a SIGHTING: 0 PERSON, 1 PLACE, 2 HOUR, 3 light, 4 whether in rain, 5 its SHADE (NONE without).");
        HiredShades x = Guilds.made("traits t 1 1;person p 1;person q 1;place a;place b;place c;shade s fee 1 1 fakes 0;"
                + "shade u fee 1 1 fakes 0;seen q at c hour 99 light 100 rain;seen p at a hour 0 light 0 dry;");
        int[][] want = {{1, 2, 99, 100, 1, -1}, {0, 0, 0, 0, 0, -1}};
        for (int sighting = 0; sighting < 2; sighting++) {
            for (int what = 0; what < 6; what++) {
                EDGES.due("seen(" + sighting + ", " + what + ")", x.seen(sighting, what), want[sighting][what]);
            }
        }
        for (int shade : new int[] {0, 1, -1}) {
            EDGES.due("hire", x.hire(1, shade), true);
            EDGES.due("its SHADE", x.seen(1, 5), shade);
            EDGES.due("the other's", x.seen(0, 5), -1);
        }
    }

    private static void sightingsOfNone() {
        EDGES.says("NONE when there is none such, or for others.");
        HiredShades x = Guilds.made(FULL);
        EDGES.due("the last one", x.seen(23, 2), 23);
        for (int sighting : new int[] {24, 25, -1, LOW, HIGH}) {
            for (int what = 0; what < 6; what++) {
                EDGES.due("seen(" + sighting + ", " + what + ")", x.seen(sighting, what), -1);
            }
        }
        for (int what : new int[] {6, 7, -1, LOW, HIGH}) {
            EDGES.due("seen(0, " + what + ")", x.seen(0, what), -1);
        }
        HiredShades two = Sightings.seen("pa5 pa6");
        EDGES.due("the second of two", two.seen(1, 2), 6);
        EDGES.due("the third of two", two.seen(2, 2), -1);
        EDGES.due("the SHADE of the third of two", two.seen(2, 5), -1);
    }

    private static void farPlaces() {
        EDGES.says("How FAR two PLACES are (0 of one);");
        HiredShades x = Guilds.made(FULL + "road xa xb 9;road xb xc 9;road xc xd 9;road xd xe 9;road xe xf 9;road xf xg 9;"
                + "road xg xh 9;");
        for (int first = 0; first < 8; first++) {
            for (int second = 0; second < 8; second++) {
                EDGES.due("far(" + first + ", " + second + ")", x.far(first, second), 9 * Math.abs(first - second));
            }
        }
    }

    private static void farPlacesOfNone() {
        EDGES.says("NONE when they can't be reached, or there are none such.");
        HiredShades x = Guilds.made(FULL + "road xa xb 9;");
        EDGES.due("far(0, 1)", x.far(0, 1), 9);
        EDGES.due("not reached", x.far(0, 2), -1);
        EDGES.due("not reached", x.far(2, 1), -1);
        EDGES.due("of one", x.far(2, 2), 0);
        for (int none : new int[] {8, 9, -1, LOW, HIGH}) {
            EDGES.due("far(" + none + ", 0)", x.far(none, 0), -1);
            EDGES.due("far(0, " + none + ")", x.far(0, none), -1);
            EDGES.due("far(" + none + ", " + none + ")", x.far(none, none), -1);
        }
        HiredShades two = Guilds.made("traits t 1 1;place a;place b;road a b 1;");
        EDGES.due("far(1, 1) of two", two.far(1, 1), 0);
        EDGES.due("far(2, 2) of two", two.far(2, 2), -1);
        EDGES.due("far(1, 2) of two", two.far(1, 2), -1);
    }

    private static void passesOfNone() {
        EDGES.says("PASS; NONE when there are none such.");
        HiredShades x = Guilds.made(FULL);
        // 1000 * (10000 - 11) / 10000 = 998.9
        EDGES.due("the last of both", x.pass(4, 23), 998);
        EDGES.due("another that can be another", x.pass(3, 23), 1000);
        EDGES.due("a like one", x.pass(4, 4), 1000);
        for (int none : new int[] {-1, LOW, HIGH}) {
            EDGES.due("pass(" + none + ", 0)", x.pass(none, 0), -1);
            EDGES.due("pass(0, " + none + ")", x.pass(0, none), -1);
        }
        EDGES.due("pass(5, 0)", x.pass(5, 0), -1);
        EDGES.due("pass(0, 24)", x.pass(0, 24), -1);
        HiredShades two = Sightings.seen("pa5 pa6");
        EDGES.due("pass(1, 1) of two", two.pass(1, 1), 1000);
        EDGES.due("pass(2, 1) of two", two.pass(2, 1), -1);
        EDGES.due("pass(1, 2) of two", two.pass(1, 2), -1);
    }

    private static void pricesOfNone() {
        EDGES.says("PRICE; NONE when there are none such.");
        HiredShades x = Guilds.made(FULL);
        EDGES.due("the last of both", x.price(4, 23), 5);
        for (int none : new int[] {-1, LOW, HIGH}) {
            EDGES.due("price(" + none + ", 0)", x.price(none, 0), -1);
            EDGES.due("price(0, " + none + ")", x.price(0, none), -1);
        }
        EDGES.due("price(5, 0)", x.price(5, 0), -1);
        EDGES.due("price(0, 24)", x.price(0, 24), -1);
        HiredShades two = Sightings.seen("pa5 pa6");
        EDGES.due("price(1, 1) of two", two.price(1, 1), 5);
        EDGES.due("price(2, 1) of two", two.price(2, 1), -1);
        EDGES.due("price(1, 2) of two", two.price(1, 2), -1);
    }

    private static void bestByPass() {
        EDGES.says("The SHADE that passes best for a SIGHTING (most),");
        // PASS 0, 500, 500, 1000, 1000 of SIGHTING 0; all 1000 of SIGHTING 1
        HiredShades x = Guilds.made("traits t 100 100,u 50 50;person p 1 1;place a;shade s fee 1 2 1 fakes 0 0;"
                + "shade v fee 2 1 2 fakes 0 0;shade w fee 1 1 2 fakes 0 0;shade x fee 9 1 1 fakes 0 0;"
                + "shade y fee 8 1 1 fakes 0 0;seen p at a hour 1 light 100 dry;seen p at a hour 1 light 0 dry;");
        EDGES.due("best(0, true, 0)", x.best(0, true, 0), 3);
        EDGES.due("best(1, true, 0)", x.best(1, true, 0), 0);
        EDGES.due("best(0, true, 1001)", x.best(0, true, 1001), 3);
        EDGES.due("best(0, true, -1)", x.best(0, true, -1), 3);
        EDGES.due("whether it is HIRED or not", x.hire(0, 0) ? x.best(0, true, 0) : 0, 3);
        Guilds.tell(x, "traits t 100 100;person p 1;place a;shade s fee 1 2 fakes 0;seen p at a hour 1 light 100 dry;");
        EDGES.due("by PASS 0", x.best(0, true, 0), 0);
        EDGES.says("or is cheapest of those that pass by so much at least (least false): of like ones the first;");
        Guilds.tell(x, "traits t 100 100,u 50 50;person p 1 1;place a;shade s fee 1 2 1 fakes 0 0;"
                + "shade v fee 2 1 2 fakes 0 0;shade w fee 2 1 2 fakes 0 0;shade x fee 9 1 1 fakes 0 0;"
                + "shade y fee 8 1 1 fakes 0 0;seen p at a hour 1 light 100 dry;");
        EDGES.due("by 0", x.best(0, false, 0), 0);
        EDGES.due("by less than 0", x.best(0, false, LOW), 0);
        EDGES.due("by 1", x.best(0, false, 1), 1);
        EDGES.due("by 500", x.best(0, false, 500), 1);
        EDGES.due("by 501", x.best(0, false, 501), 4);
        EDGES.due("by 1000", x.best(0, false, 1000), 4);
    }

    private static void bestByPrice() {
        EDGES.says("NONE when there is none such.");
        HiredShades x = Guilds.made(FULL);
        EDGES.due("best(23, true, 0)", x.best(23, true, 0), 1);
        EDGES.due("best(23, false, 0)", x.best(23, false, 0), 0);
        for (int none : new int[] {24, 25, -1, LOW, HIGH}) {
            EDGES.due("best(" + none + ", true, 0)", x.best(none, true, 0), -1);
            EDGES.due("best(" + none + ", false, 0)", x.best(none, false, 0), -1);
        }
        EDGES.due("by 1000", x.best(23, false, 1000), 1);
        EDGES.due("by 1001", x.best(23, false, 1001), -1);
        EDGES.due("by the most", x.best(23, false, HIGH), -1);
        HiredShades nobody = Guilds.made("traits t 1 1;person p 1;place a;seen p at a hour 1 light 1 dry;");
        EDGES.due("no SHADES", nobody.best(0, true, 0), -1);
        EDGES.due("no SHADES", nobody.best(0, false, 0), -1);
    }

    private static void whoseOfNone() {
        EDGES.says("WHOSE BODY: the PERSON's (shade NONE), a SHADE's; NONE when there are none such.");
        HiredShades x = Sightings.seen("pa5 pb6");
        EDGES.due("whose(1, NONE)", x.whose(1, -1), 0);
        EDGES.due("whose(1, 0)", x.whose(1, 0), 500);
        EDGES.due("whose(1, 1)", x.whose(1, 1), 500);
        for (int none : new int[] {2, 3, 24, -1, LOW, HIGH}) {
            EDGES.due("whose(" + none + ", NONE)", x.whose(none, -1), -1);
            EDGES.due("whose(" + none + ", 0)", x.whose(none, 0), -1);
        }
        for (int none : new int[] {2, 3, 5, -2, LOW, HIGH}) {
            EDGES.due("whose(0, " + none + ")", x.whose(0, none), -1);
        }
        HiredShades most = Guilds.made(FULL);
        EDGES.due("the last of both", most.whose(23, 4) > 0, true);
        EDGES.due("whose(23, 5)", most.whose(23, 5), -1);
        EDGES.due("whose(24, 4)", most.whose(24, 4), -1);
    }
}
