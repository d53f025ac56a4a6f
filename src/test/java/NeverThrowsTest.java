/** That no call throws or fails to end, whatever its arguments and whatever stands: a throw ends this test with code 1. */
public final class NeverThrowsTest {
    private static final Check CHECK = new Check("NeverThrowsTest");
    private static final int[] SOME = {Integer.MIN_VALUE, Integer.MIN_VALUE + 1, -1000000000, -2, -1, 0, 1, 2, 4, 5, 6, 7, 8, 9, 23,
        24, 25, 30, 31, 32, 99, 100, 101, 127, 255, 1000, 1600, 1601, 1 << 23, 1 << 24, 1 << 30, Integer.MAX_VALUE - 1,
        Integer.MAX_VALUE};

    public static void main(String[] args) {
        String full = full();
        for (String text : new String[] {"", "x", "traits a 1 1;", "traits a 1 1;place a", Guilds.SMALL, full}) {
            for (int hires = 0; hires <= 2; hires++) {
                HiredShades x = new HiredShades();
                if (text.endsWith("a")) {
                    Guilds.tell(x, full);
                }
                Guilds.tell(x, text);
                for (int sighting = 0; sighting < 12 * hires; sighting++) {
                    x.hire(sighting, sighting % 5);
                }
                askOne(x);
                askTwo(x);
                askThree(x);
                change(x);
            }
        }
        CHECK.due("answers were given", true, true);
        CHECK.end();
    }

    private static String full() {
        StringBuilder text = new StringBuilder("traits a 9 0,b 8 1,c 7 2,d 6 3,e 5 4,f 4 99;");
        for (char n = 'a'; n <= 'h'; n++) {
            text.append("person p").append(n).append(" 1 2 3 4 5 6;place x").append(n).append(';');
            text.append(n <= 'e' ? "shade s" + n + " fee 1 1 1 1 1 1 1 fakes 0 0 0 0 0 0;" : "");
        }
        for (int n = 0; n < 24; n++) {
            text.append("seen p").append((char) ('a' + n % 8)).append(" at xa hour ").append(n).append(" light 9 dry;");
        }
        return text + "price 1/0 when 1/0=0;price 9 when all;";
    }

    private static void askOne(HiredShades x) {
        for (int a : SOME) {
            x.fault(a);
            x.has(a);
            x.shades(a);
            x.must(a);
            x.clash(a);
            x.ways(a);
            x.octet(a);
            x.image();
            x.average();
        }
    }

    private static void askTwo(HiredShades x) {
        for (int a : SOME) {
            for (int b : SOME) {
                x.seen(a, b);
                x.far(a, b);
                x.pass(a, b);
                x.price(a, b);
                x.whose(a, b);
                x.canBe(a, b);
                x.chain(a, b);
                x.could(a, b, true);
                x.could(a, b, false);
                x.best(a, true, b);
                x.best(a, false, b);
                x.shade(a, b);
                x.days(a, b);
            }
        }
    }

    private static void askThree(HiredShades x) {
        for (int a : SOME) {
            for (int b : SOME) {
                for (int c : SOME) {
                    x.letter(a, b, c);
                    x.trait(a, b, c);
                    x.crew(a, b, c);
                    x.crowd(a, b, c, a);
                    x.crowd(a, b, c, 0);
                }
            }
        }
    }

    private static void change(HiredShades x) {
        for (int a : SOME) {
            for (int b : SOME) {
                x.hire(a, b);
                x.take(a, b);
                x.undo();
                x.feed(a, b, a, b, a);
                x.seed(a);
                x.days(1, 0);
            }
            x.end(a);
            x.on();
            x.feed(a, a, a, a, a);
            x.guild();
        }
    }
}
