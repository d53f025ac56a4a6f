/** Promises 1 and 6 to 10: a new object, has, letter, trait, seen, far. */
public final class ListsTest {
    private static final Check CHECK = new Check("ListsTest");
    private static final int LOW = Integer.MIN_VALUE;
    private static final int HIGH = Integer.MAX_VALUE;

    public static void main(String[] args) {
        startsEmpty();
        counts();
        tellsLetters();
        tellsTraits();
        tellsSightings();
        findsTheShortestWay();
        CHECK.end();
    }

    private static void startsEmpty() {
        HiredShades x = new HiredShades();
        for (int what = 0; what <= 8; what++) {
            CHECK.due("has(" + what + ") at first", x.has(what), 0);
        }
        for (int kind = 0; kind < 4; kind++) {
            CHECK.due("letter of nothing", x.letter(kind, 0, 0), -1);
        }
        CHECK.due("trait of nothing", x.trait(0, -1, 0), -1);
        CHECK.due("seen of nothing", x.seen(0, 0), -1);
        CHECK.due("far of nothing", x.far(0, 0), -1);
        CHECK.due("shades(NONE) of nobody", x.shades(-1), 0);
        CHECK.due("ways of nothing", x.ways(0), 1);
        CHECK.due("image of nothing", x.image(), 1);
    }

    private static void counts() {
        HiredShades x = Guilds.made(Guilds.SMALL);
        int[] want = {2, 2, 2, 3, 4, 2, 10, 0, 0};
        for (int what = 0; what < 9; what++) {
            CHECK.due("has(" + what + ")", x.has(what), want[what]);
        }
        for (int what : new int[] {-1, 9, LOW, HIGH}) {
            CHECK.due("has(" + what + ")", x.has(what), -1);
        }
        x.hire(0, 0);
        x.hire(3, 1);
        CHECK.due("has(7) of two", x.has(7), 2);
        CHECK.due("has(8) of two", x.has(8), 2);
        x.hire(0, -1);
        CHECK.due("has(7) of one", x.has(7), 1);
        CHECK.due("has(8) of three", x.has(8), 3);
    }

    private static void tellsLetters() {
        HiredShades x = Guilds.made("traits a 1 1,bcdefg 1 1;person zy 1 1;shade qwerty fee 1 1 1 fakes 1 1;"
                + "place ab;place x;");
        String[][] names = {{"a", "bcdefg"}, {"zy"}, {"qwerty"}, {"ab", "x"}};
        for (int kind = 0; kind < 4; kind++) {
            for (int which = 0; which < names[kind].length; which++) {
                String name = names[kind][which];
                for (int k = 0; k < 6; k++) {
                    int want = k < name.length() ? name.charAt(k) - 'a' + 1 : 0;
                    CHECK.due("letter " + k + " of " + name, x.letter(kind, which, k), want);
                }
                CHECK.due("letter 6", x.letter(kind, which, 6), -1);
                CHECK.due("letter -1", x.letter(kind, which, -1), -1);
                CHECK.due("letter low", x.letter(kind, which, LOW), -1);
                CHECK.due("letter high", x.letter(kind, which, HIGH), -1);
            }
            CHECK.due("letter of none", x.letter(kind, names[kind].length, 0), -1);
            CHECK.due("letter of -1", x.letter(kind, -1, 0), -1);
            CHECK.due("letter of low", x.letter(kind, LOW, 0), -1);
            CHECK.due("letter of high", x.letter(kind, HIGH, 0), -1);
        }
        CHECK.due("letter of kind 4", x.letter(4, 0, 0), -1);
        CHECK.due("letter of kind -1", x.letter(-1, 0, 0), -1);
        CHECK.due("letter of kind high", x.letter(HIGH, 0, 0), -1);
    }

    private static void tellsTraits() {
        HiredShades x = Guilds.made(Guilds.SMALL);
        int[][] shows = {{50, 20}, {10, 80}};
        int[][] looks = {{1, 2}, {3, 4}};
        int[][] owns = {{1, 9}, {3, 4}};
        int[][] fakes = {{0, 0}, {1, 0}};
        for (int trait = 0; trait < 2; trait++) {
            for (int k = 0; k < 2; k++) {
                CHECK.due("shows", x.trait(trait, -1, k), shows[trait][k]);
                CHECK.due("shows with who", x.trait(trait, k, 0), -1);
                CHECK.due("shows with who", x.trait(trait, k, 1), -1);
                CHECK.due("a PERSON's", x.trait(trait, k, 2), looks[k][trait]);
                CHECK.due("a SHADE's own", x.trait(trait, k, 3), owns[k][trait]);
                CHECK.due("a SHADE's fakes", x.trait(trait, k, 4), fakes[k][trait]);
            }
            for (int what = 2; what <= 4; what++) {
                for (int who : new int[] {-1, 2, LOW, HIGH}) {
                    CHECK.due("of nobody", x.trait(trait, who, what), -1);
                }
            }
            for (int what : new int[] {-1, 5, LOW, HIGH}) {
                CHECK.due("of no what", x.trait(trait, -1, what), -1);
                CHECK.due("of no what", x.trait(trait, 0, what), -1);
            }
        }
        for (int trait : new int[] {-1, 2, LOW, HIGH}) {
            CHECK.due("of no TRAIT", x.trait(trait, -1, 0), -1);
            CHECK.due("of no TRAIT", x.trait(trait, 0, 2), -1);
        }
        HiredShades y = Guilds.made("traits t 5 6;person p 7;");
        CHECK.due("no SHADE here", y.trait(0, 0, 3), -1);
        CHECK.due("a PERSON here", y.trait(0, 0, 2), 7);
    }

    private static void tellsSightings() {
        HiredShades x = Guilds.made(Guilds.SMALL);
        int[][] want = {{0, 0, 5, 100, 0, -1}, {0, 1, 6, 50, 1, -1}, {0, 1, 7, 0, 0, -1}, {1, 2, 6, 80, 0, -1}};
        for (int sighting = 0; sighting < 4; sighting++) {
            for (int what = 0; what < 6; what++) {
                CHECK.due("seen(" + sighting + ", " + what + ")", x.seen(sighting, what), want[sighting][what]);
            }
            CHECK.due("what 6", x.seen(sighting, 6), -1);
            CHECK.due("what -1", x.seen(sighting, -1), -1);
            CHECK.due("what low", x.seen(sighting, LOW), -1);
            CHECK.due("what high", x.seen(sighting, HIGH), -1);
        }
        for (int sighting : new int[] {-1, 4, 24, LOW, HIGH}) {
            CHECK.due("no SIGHTING " + sighting, x.seen(sighting, 0), -1);
        }
        x.hire(2, 1);
        CHECK.due("its SHADE", x.seen(2, 5), 1);
        x.hire(2, -1);
        CHECK.due("no SHADE", x.seen(2, 5), -1);
    }

    private static void findsTheShortestWay() {
        HiredShades x = Guilds.made("traits t 1 1;place a;place b;place c;place d;place e;"
                + "road a b 9;road b c 2;road c a 3;road c a 7;road a c 8;road d e 1;");
        int[][] want = {{0, 5, 3, -1, -1}, {5, 0, 2, -1, -1}, {3, 2, 0, -1, -1}, {-1, -1, -1, 0, 1},
            {-1, -1, -1, 1, 0}};
        for (int first = 0; first < 5; first++) {
            for (int second = 0; second < 5; second++) {
                CHECK.due("far(" + first + ", " + second + ")", x.far(first, second), want[first][second]);
            }
            for (int none : new int[] {-1, 5, 8, LOW, HIGH}) {
                CHECK.due("far of none", x.far(first, none), -1);
                CHECK.due("far of none", x.far(none, first), -1);
            }
        }
        HiredShades star = Guilds.made("traits t 1 1;place a;place b;place c;place d;road a b 1;road c a 2;road a d 3;");
        CHECK.due("far through the first", star.far(1, 2), 3);
        CHECK.due("far through the first", star.far(3, 1), 4);
        HiredShades line = Guilds.made("traits t 1 1;place h;place g;place f;place e;place d;place c;place b;place a;"
                + "road a b 9;road b c 9;road c d 9;road d e 9;road e f 9;road f g 9;road g h 9;");
        CHECK.due("far along eight", line.far(0, 7), 63);
        CHECK.due("far along eight", line.far(7, 0), 63);
        CHECK.due("far along three", line.far(2, 5), 27);
        Guilds.tell(line, "traits t 1 1;place a;place b;");
        CHECK.due("the old ROADS are gone", line.far(0, 1), -1);
    }
}
