/** All promises with as much of each kind as the document lets, held against NaiveShades. */
public final class FullTest {
    private static final Check CHECK = new Check("FullTest");

    private final HiredShades x = new HiredShades();
    private final NaiveShades y = new NaiveShades();

    public static void main(String[] args) {
        for (int hours = 1; hours <= 29; hours += 7) {
            FullTest test = new FullTest();
            test.tell(hours);
            test.askAll();
            for (int sighting = 0; sighting < 24; sighting++) {
                test.hire(sighting, sighting * 7 % 5);
            }
            test.askAll();
            test.carryImage();
            test.askAll();
            for (int n = 0; n < 31; n++) {
                CHECK.due("undo()", test.x.undo(), test.y.undo());
                test.hire(n % 24, n % 6 - 1);
            }
            test.askAll();
        }
        longestRules();
        CHECK.end();
    }

    /** All kinds full take 72 STATEMENTS; for the tithe there are no bytes left. */
    private static String full(int hours) {
        StringBuilder text = new StringBuilder("traits a 9 0,b 8 1,c 7 2,d 6 3,e 5 4,f 4 99;");
        for (int n = 0; n < 8; n++) {
            text.append("person ").append((char) ('g' + n));
            for (int trait = 0; trait < 6; trait++) {
                text.append(' ').append((n + trait * n) % 3);
            }
            text.append(";place ").append((char) ('q' + n)).append(';');
        }
        for (int n = 0; n < 5; n++) {
            text.append("shade ").append("opyzz".charAt(n)).append(n == 4 ? "z" : "").append(" fee ").append(1 + n * 3 % 7);
            for (int trait = 0; trait < 6; trait++) {
                text.append(' ').append((n * trait + 1) % 3);
            }
            text.append(" fakes");
            for (int trait = 0; trait < 6; trait++) {
                text.append(' ').append((n + trait) % 4 == 0 ? 1 : 0);
            }
            text.append(';');
        }
        for (int n = 0; n < 20; n++) {
            text.append("road ").append((char) ('q' + n % 7)).append(' ');
            text.append((char) ('q' + (n % 7 + 1 + n / 7) % 8)).append(' ').append(1 + n * 5 % 9).append(';');
        }
        for (int n = 0; n < 24; n++) {
            text.append("seen ").append((char) ('g' + n % 8)).append(" at ").append((char) ('q' + n * 3 % 8));
            text.append(" hour ").append(n * 5 % hours).append(" light ").append(n % 8 == 0 ? 97 : n % 10).append(n % 8 == 0 ? " rain;" : " dry;");
        }
        for (int n = 0; n < 6; n++) {
            text.append("price ").append(n).append(" when ").append(n).append(n == 3 ? "=unlike;" : "<fee;");
        }
        while (text.length() < 1600) {
            text.append(' ');
        }
        return text.toString();
    }

    private void tell(int hours) {
        String text = full(hours);
        if (text.length() > 1600) {
            throw new IllegalStateException(text.length() + " bytes");
        }
        write(Guilds.bytes(text));
        CHECK.due("guild()", x.guild(), 72);
        y.guild();
        int[] want = {6, 8, 5, 8, 24, 6, 0, 0, 0};
        for (int what = 0; what < 9; what++) {
            CHECK.due("has(" + what + ")", x.has(what), want[what]);
        }
    }

    private void write(int[] bytes) {
        Guilds.write(x, bytes);
        y.end(0);
        for (int from = 0; from < bytes.length; from += 20) {
            int[] five = new int[5];
            for (int k = 0; k < 20; k++) {
                five[k / 4] = five[k / 4] << 8 | (from + k < bytes.length ? bytes[from + k] : 0);
            }
            y.feed(five);
        }
        y.end(bytes.length);
    }

    private void hire(int sighting, int shade) {
        CHECK.due("hire(" + sighting + ", " + shade + ")", x.hire(sighting, shade), y.hire(sighting, shade));
    }

    private void carryImage() {
        int length = y.image();
        CHECK.due("image()", x.image(), length);
        int[] bytes = new int[length];
        for (int k = 0; k < length; k++) {
            bytes[k] = y.octet(k);
            CHECK.due("octet " + k, x.octet(k), bytes[k]);
        }
        CHECK.due("octet behind it", x.octet(length), -1);
        write(bytes);
        CHECK.due("on()", x.on(), y.on());
    }

    private void askAll() {
        askLists();
        askSightings();
        askBodies();
        CHECK.due("average", x.average(), y.average());
        CHECK.due("days", x.days(100, 0), y.days(100, 0));
        CHECK.due("days", x.days(99, 1), y.days(99, 1));
    }

    private void askLists() {
        for (int a = -1; a <= 9; a++) {
            CHECK.due("has " + a, x.has(a), y.has(a));
            for (int b = -1; b <= 9; b++) {
                CHECK.due("far " + a + " " + b, x.far(a, b), y.far(a, b));
                CHECK.due("shade " + a + " " + b, x.shade(a, b), y.shade(a, b));
                for (int c = -1; c <= 6; c++) {
                    CHECK.due("letter " + a + " " + b + " " + c, x.letter(a, b, c), y.letter(a, b, c));
                    CHECK.due("trait " + a + " " + b + " " + c, x.trait(a, b, c), y.trait(a, b, c));
                }
            }
        }
    }

    private void askSightings() {
        for (int s = -1; s <= 25; s++) {
            for (int k = -2; k <= 24; k++) {
                CHECK.due("seen " + s + " " + k, x.seen(s, k), y.seen(s, k));
                CHECK.due("pass " + k + " " + s, x.pass(k, s), y.pass(k, s));
                CHECK.due("price " + k + " " + s, x.price(k, s), y.price(k, s));
                CHECK.due("whose " + s + " " + k, x.whose(s, k), y.whose(s, k));
                CHECK.due("canBe " + s + " " + k, x.canBe(s, k), y.canBe(s, k));
            }
            CHECK.due("best " + s, x.best(s, true, 0), y.best(s, true, 0));
            CHECK.due("cheapest " + s, x.best(s, false, 300), y.best(s, false, 300));
            CHECK.due("must " + s, x.must(s), y.must(s));
            CHECK.due("clash " + s, x.clash(s), y.clash(s));
        }
    }

    private void askBodies() {
        for (int a = -2; a <= 9; a++) {
            CHECK.due("shades " + a, x.shades(a), y.shades(a));
            for (int b = -2; b <= 9; b++) {
                CHECK.due("chain " + a + " " + b, x.chain(a, b), y.chain(a, b));
                CHECK.due("could " + a + " " + b, x.could(a, 5 * b, true), y.could(a, 5 * b, true));
                CHECK.due("could " + a + " " + b, x.could(a, 5 * b, false), y.could(a, 5 * b, false));
                for (int n = 0; n <= 6; n++) {
                    CHECK.due("crowd " + a + " " + b + " " + n, x.crowd(a, 2 * b, n, n % 4 - 1), y.crowd(a, 2 * b, n, n % 4 - 1));
                }
            }
        }
        int open = 0;
        for (int s = 23; s >= 0; s--) {
            open |= x.seen(s, 5) == -1 && Integer.bitCount(open) < 7 ? 1 << s : 0;
        }
        for (int k = -1; k <= 7; k++) {
            CHECK.due("crew " + open + " " + k, x.crew(open, 0, k), y.crew(open, 0, k));
        }
        CHECK.due("ways", x.ways(0), y.ways(0));
        CHECK.due("ways", x.ways(200), y.ways(200));
    }

    /** RULES up to the tape's last byte, with as much open and pending as there can be. */
    private static void longestRules() {
        String one = "traits t 50 20;person p 1;shade s fee 7 2 fakes 0;place x;seen p at x hour 9 light 60 rain;";
        StringBuilder sum = new StringBuilder(one + "price 1");
        while (sum.length() + " when all;".length() + 2 <= 1600) {
            sum.append("+1");
        }
        int ones = (sum.length() - one.length() - "price ".length() + 1) / 2;
        HiredShades x = Guilds.made(sum + " when all;");
        CHECK.due("a long SUM", x.price(0, 0), Math.min(999, ones));
        StringBuilder test = new StringBuilder(one + "price 5 when 1=2");
        while (test.length() + " or 1=1;".length() + " or 1=2".length() <= 1600) {
            test.append(" or 1=2");
        }
        Guilds.tell(x, test + " or 1=1;");
        CHECK.due("a long TEST", x.price(0, 0), 5);
        Guilds.tell(x, test + ";");
        CHECK.due("a long TEST that fails", x.price(0, 0), 7);
        String deep = "1=2 or all and[".repeat(5) + "1=2 or all and 2+3*(1+2*2)=17" + "]".repeat(5);
        Guilds.tell(x, one + "price 6 when " + deep + ";");
        CHECK.due("a deep TEST: " + x.fault(0) + " at " + x.fault(1), x.price(0, 0), 6);
        Guilds.tell(x, one + "price " + "1+2*max(9,1+2*(".repeat(3) + "4" + "))".repeat(3) + " when all;");
        CHECK.due("a deep SUM", x.price(0, 0), deepSum());
    }

    private static int deepSum() {
        int value = 4;
        for (int n = 0; n < 3; n++) {
            value = 1 + 2 * Math.max(9, 1 + 2 * value);
        }
        return value;
    }
}
