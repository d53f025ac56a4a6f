/** Promises 15 to 19: canBe, chain, shades, must, clash. */
public final class ChainsTest {
    private static final Check CHECK = new Check("ChainsTest");
    private static final int LOW = Integer.MIN_VALUE;
    private static final int HIGH = Integer.MAX_VALUE;
    private static final String PLACES = "traits t 1 1;person p 1;person q 1;person r 1;place a;place b;place c;place d;"
            + "road a b 2;road b c 2;shade s fee 1 1 fakes 1;shade u fee 1 1 fakes 1;";

    public static void main(String[] args) {
        canBeAtTwo();
        longestByNumbers();
        longestIsNotByHours();
        countsShades();
        mustBe();
        clashes();
        manySightings();
        CHECK.end();
    }

    /** SIGHTINGS told as who, where, when: "pa5 qc10". */
    private static HiredShades seen(String told) {
        StringBuilder text = new StringBuilder(PLACES);
        for (String one : told.split(" ")) {
            text.append("seen ").append(one.charAt(0)).append(" at ").append(one.charAt(1));
            text.append(" hour ").append(one.substring(2)).append(" light 1 dry;");
        }
        return Guilds.made(text.toString());
    }

    private static void canBeAtTwo() {
        HiredShades x = seen("pa5 qa5 pb5 pb6 qb7 pc9 pc8 pd99");
        int[][] want = {{0, 1, 1}, {0, 2, 0}, {0, 3, 0}, {0, 4, 1}, {0, 5, 1}, {0, 6, 0}, {0, 7, 0}, {4, 5, 1},
            {4, 6, 0}, {3, 6, 1}, {3, 5, 1}};
        for (int[] row : want) {
            CHECK.due("canBe(" + row[0] + ", " + row[1] + ")", x.canBe(row[0], row[1]), row[2]);
            CHECK.due("canBe(" + row[1] + ", " + row[0] + ")", x.canBe(row[1], row[0]), row[2]);
        }
        CHECK.due("canBe of one", x.canBe(3, 3), -1);
        for (int none : new int[] {-1, 8, LOW, HIGH}) {
            CHECK.due("canBe of none", x.canBe(0, none), -1);
            CHECK.due("canBe of none", x.canBe(none, 0), -1);
            CHECK.due("canBe of none twice", x.canBe(none, none), -1);
        }
        x.hire(0, 0);
        CHECK.due("HIRED or not", x.canBe(0, 1), 1);
    }

    private static void chain(HiredShades x, int person, int... want) {
        CHECK.due("chain(" + person + ", NONE)", x.chain(person, -1), want.length);
        for (int k = 0; k < want.length; k++) {
            CHECK.due("chain(" + person + ", " + k + ")", x.chain(person, k), want[k]);
        }
        for (int k : new int[] {want.length, -2, LOW, HIGH}) {
            CHECK.due("chain(" + person + ", " + k + ")", x.chain(person, k), -1);
        }
    }

    private static void longestByNumbers() {
        HiredShades x = seen("pa5 pb6 pb7 qc7 pa9 pb9 pc9");
        chain(x, 0, 0, 2, 4);
        chain(x, 1, 3);
        chain(x, 2);
        for (int none : new int[] {-1, 3, 8, LOW, HIGH}) {
            CHECK.due("chain of nobody", x.chain(none, -1), -1);
            CHECK.due("chain of nobody", x.chain(none, 0), -1);
        }
        x.hire(0, 0);
        chain(x, 0, 1, 2, 4);
        x.hire(2, 0);
        chain(x, 0, 1, 4);
        x.undo();
        x.undo();
        chain(x, 0, 0, 2, 4);
        chain(seen("pb5 pa5 pa6"), 0, 1, 2);
        chain(seen("pa5 pb5 pa6 pb6"), 0, 0, 2);
    }

    private static void longestIsNotByHours() {
        // by numbers, though the later HOUR was told first
        chain(seen("pa9 pa5 pa7 pb7"), 0, 0, 1, 2);
        // {0, 3} by numbers ahead of {1, 2}, though 3 comes first by HOUR
        chain(seen("pa10 pb10 pb9 pa9"), 0, 0, 3);
        // of {0, 2, 4} and {0, 1, 3} the second one
        chain(seen("pa1 pb30 pa30 pc32 pa32"), 0, 0, 1, 3);
    }

    private static void countsShades() {
        HiredShades x = seen("pa5 pb5 pc5 qa5 qa6 rd1 ra1");
        int[] want = {2, 0, 1};
        for (int person = 0; person < 3; person++) {
            CHECK.due("shades(" + person + ")", x.shades(person), want[person]);
        }
        CHECK.due("shades(NONE)", x.shades(-1), 3);
        for (int none : new int[] {-2, 3, LOW, HIGH}) {
            CHECK.due("shades(" + none + ")", x.shades(none), -1);
        }
        x.hire(0, 0);
        CHECK.due("shades(0) with one HIRED", x.shades(0), 1);
        CHECK.due("shades(NONE) with one HIRED", x.shades(-1), 2);
        x.hire(1, 1);
        CHECK.due("shades(0) with two HIRED", x.shades(0), 0);
        HiredShades y = Guilds.made(PLACES);
        CHECK.due("shades(0) of nothing", y.shades(0), 0);
        CHECK.due("shades(NONE) of nothing", y.shades(-1), 0);
    }

    private static void must(HiredShades x, int... want) {
        for (int sighting = 0; sighting < want.length; sighting++) {
            CHECK.due("must(" + sighting + ")", x.must(sighting), want[sighting]);
        }
        for (int none : new int[] {-1, want.length, 24, LOW, HIGH}) {
            CHECK.due("must of none", x.must(none), -1);
        }
    }

    private static void mustBe() {
        HiredShades x = seen("pa5 pb6 pa6 qc5 pc12 pd12");
        must(x, 2, 0, 2, 2, 2, 0);
        x.hire(2, 0);
        must(x, 1, 1, -1, 2, 2, 0);
        x.hire(4, 1);
        must(x, 1, 1, -1, 2, -1, 1);
        x.hire(0, 1);
        must(x, -1, 1, -1, 2, -1, 1);
        x.hire(1, 1);
        CHECK.due("SHADE 1 can't be there", x.seen(1, 5), -1);
    }

    private static void clash(HiredShades x, int... want) {
        for (int k = 0; k < want.length; k++) {
            CHECK.due("clash(" + k + ")", x.clash(k), want[k]);
        }
        for (int none : new int[] {want.length, want.length + 1, -1, LOW, HIGH}) {
            CHECK.due("clash(" + none + ")", x.clash(none), -1);
        }
    }

    private static void clashes() {
        HiredShades x = seen("pa5 qc5 pb6 pa6 qa5 pd7 ra5 pa7");
        clash(x, 2, 5, 104, 203, 205, 207, 305, 507);
        x.hire(0, 0);
        clash(x, 104, 203, 205, 207, 305, 507);
        x.hire(5, 1);
        clash(x, 104, 203, 207);
        x.hire(2, 1);
        CHECK.due("u can't be at both", x.seen(2, 5), -1);
        x.hire(4, 0);
        clash(x, 203, 207);
        clash(seen("pa1 qb1 rc1"));
        clash(Guilds.made(PLACES));
    }

    private static void manySightings() {
        StringBuilder told = new StringBuilder("pa0");
        for (int n = 1; n < 24; n++) {
            told.append(n % 2 == 0 ? " pa" : " pd").append(n);
        }
        HiredShades x = seen(told.toString());
        chain(x, 0, 0, 2, 4, 6, 8, 10, 12, 14, 16, 18, 20, 22);
        CHECK.due("shades of 24", x.shades(0), 12);
        CHECK.due("must of 24", x.must(23), 1);
        CHECK.due("clash 0 of 24", x.clash(0), 1);
        CHECK.due("clash 143 of 24", x.clash(143), 2223);
        CHECK.due("clash 144 of 24", x.clash(144), -1);
        x.hire(23, 0);
        must(x, 2, 0, 2, 0, 2, 0, 2, 0, 2, 0, 2, 0, 2, 0, 2, 0, 2, 0, 2, 0, 2, 0, 2, -1);
    }
}
