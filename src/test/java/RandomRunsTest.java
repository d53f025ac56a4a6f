import java.util.Random;

/** All promises: runs of calls by chance, each answer held against NaiveShades. */
public final class RandomRunsTest {
    private static final Check CHECK = new Check("RandomRunsTest");
    private static final int CALLS = 512;

    private final Random random;
    private final HiredShades x = new HiredShades();
    private final NaiveShades y = new NaiveShades();
    private final String run;
    private int calls;

    private RandomRunsTest(int seed) {
        random = new Random(seed);
        run = "run " + seed + ": ";
    }

    public static void main(String[] args) {
        int runs = args.length > 0 ? Integer.parseInt(args[0]) : 300;
        int first = args.length > 1 ? Integer.parseInt(args[1]) : 0;
        for (int seed = first; seed < first + runs; seed++) {
            new RandomRunsTest(seed).calls();
        }
        for (int seed = first; seed < first + 40 * runs; seed++) {
            spoiltText(seed);
        }
        CHECK.end();
    }

    private static void spoiltText(int seed) {
        Random random = new Random(~seed);
        HiredShades x = new HiredShades();
        NaiveShades y = new NaiveShades();
        int[] bytes = Guilds.bytes(RandomTexts.spoilt(random));
        write(x, y, bytes);
        String run = "text " + seed + ": ";
        CHECK.due(run + "guild()", x.guild(), y.guild());
        CHECK.due(run + "fault(0)", x.fault(0), y.fault(0));
        CHECK.due(run + "fault(1)", x.fault(1), y.fault(1));
    }

    private static int write(HiredShades x, NaiveShades y, int[] bytes) {
        CHECK.due("end(0)", x.end(0), y.end(0));
        int calls = 2;
        for (int from = 0; from < bytes.length; from += 20) {
            int[] five = new int[5];
            for (int k = 0; k < 20; k++) {
                five[k / 4] = five[k / 4] << 8 | (from + k < bytes.length ? bytes[from + k] : 32);
            }
            CHECK.due("feed", x.feed(five[0], five[1], five[2], five[3], five[4]), y.feed(five));
            calls++;
        }
        CHECK.due("end", x.end(bytes.length), y.end(bytes.length));
        return calls;
    }

    private void calls() {
        tellGuild(true);
        while (calls < CALLS - 90) {
            int what = random.nextInt(100);
            if (what == 0) {
                tellGuild(random.nextInt(4) > 0);
            } else if (what < 4) {
                carryImage();
            } else if (what < 30) {
                change();
            } else {
                ask();
            }
        }
    }

    private void tellGuild(boolean right) {
        int[] bytes = Guilds.bytes(right ? RandomTexts.right(random) : RandomTexts.spoilt(random));
        calls += write(x, y, bytes);
        due("guild()", x.guild(), y.guild());
        due("fault(0)", x.fault(0), y.fault(0));
        due("fault(1)", x.fault(1), y.fault(1));
    }

    private void carryImage() {
        int length = y.image();
        due("image()", x.image(), length);
        int[] bytes = new int[length];
        for (int k = 0; k < length; k++) {
            bytes[k] = y.octet(k);
            due("octet " + k, x.octet(k), bytes[k]);
        }
        if (random.nextInt(3) > 0) {
            int at = random.nextInt(length);
            bytes[at] = random.nextInt(random.nextBoolean() ? 7 : 256);
            if (random.nextInt(3) > 0) {
                int check = 73;
                for (int k = 0; k < length - 1; k++) {
                    check = (7 * check + bytes[k]) % 251;
                }
                bytes[length - 1] = check;
            }
        }
        if (random.nextInt(8) == 0) {
            bytes = java.util.Arrays.copyOf(bytes, Math.max(0, length - 1 + 2 * random.nextInt(2)));
        }
        calls += write(x, y, bytes);
        due("on()", x.on() ? 1 : 0, y.on() ? 1 : 0);
        due("has(7)", x.has(7), y.has(7));
        due("has(8)", x.has(8), y.has(8));
    }

    private void change() {
        int sighting = sighting();
        int shade = shade();
        int least = least();
        int bits = bits();
        switch (random.nextInt(8)) {
            case 0:
                due("undo()", x.undo() ? 1 : 0, y.undo() ? 1 : 0);
                break;
            case 1:
                due("take(" + bits + ", " + least + ")", x.take(bits, least), y.take(bits, least));
                break;
            case 2:
                due("seed(" + shade + ")", x.seed(shade * 77777) ? 1 : 0, y.seed(shade * 77777) ? 1 : 0);
                break;
            case 3:
                int n = random.nextInt(103) - 1;
                int what = random.nextInt(4) - 1;
                due("days(" + n + ", " + what + ")", x.days(n, what), y.days(n, what));
                break;
            default:
                due("hire(" + sighting + ", " + shade + ")", x.hire(sighting, shade) ? 1 : 0,
                        y.hire(sighting, shade) ? 1 : 0);
                break;
        }
    }

    private void ask() {
        switch (random.nextInt(3)) {
            case 0: askLists(); break;
            case 1: askChains(); break;
            default: askBodies(); break;
        }
    }

    private void askLists() {
        int a = random.nextInt(10) - 1;
        int b = random.nextInt(10) - 1;
        int c = random.nextInt(8) - 1;
        int s = sighting();
        switch (random.nextInt(9)) {
            case 0: due("has " + a, x.has(a), y.has(a)); break;
            case 1: due("letter " + c + " " + a + " " + b, x.letter(c, a, b), y.letter(c, a, b)); break;
            case 2: due("trait " + a + " " + b + " " + c, x.trait(a, b, c), y.trait(a, b, c)); break;
            case 3: due("seen " + s + " " + c, x.seen(s, c), y.seen(s, c)); break;
            case 4: due("far " + a + " " + b, x.far(a, b), y.far(a, b)); break;
            case 5: due("fault " + a, x.fault(a), y.fault(a)); break;
            case 6: due("shade " + c + " " + b, x.shade(c, b), y.shade(c, b)); break;
            case 7: due("average", x.average(), y.average()); break;
            default: due("octet " + s, x.octet(s), y.octet(s)); break;
        }
    }

    private void askChains() {
        int s = sighting();
        int t = sighting();
        int p = random.nextInt(10) - 1;
        int k = random.nextInt(9) - 2;
        switch (random.nextInt(6)) {
            case 0: due("canBe " + s + " " + t, x.canBe(s, t), y.canBe(s, t)); break;
            case 1: due("chain " + p + " " + k, x.chain(p, k), y.chain(p, k)); break;
            case 2: due("shades " + k, x.shades(k), y.shades(k)); break;
            case 3: due("must " + s, x.must(s), y.must(s)); break;
            case 4: due("clash " + k, x.clash(k), y.clash(k)); break;
            default: due("clash " + s, x.clash(s), y.clash(s)); break;
        }
    }

    private void askBodies() {
        int s = sighting();
        int h = shade();
        int place = random.nextInt(9) - 1;
        int hour = random.nextInt(random.nextBoolean() ? 12 : 103) - 1;
        int k = random.nextInt(9) - 2;
        int n = random.nextInt(8) - 1;
        int least = least();
        int bits = bits();
        boolean flag = random.nextBoolean();
        switch (random.nextInt(8)) {
            case 0: due("pass " + h + " " + s, x.pass(h, s), y.pass(h, s)); break;
            case 1: due("price " + h + " " + s, x.price(h, s), y.price(h, s)); break;
            case 2: due("best " + s + flag + least, x.best(s, flag, least), y.best(s, flag, least)); break;
            case 3: due("whose " + s + " " + h, x.whose(s, h), y.whose(s, h)); break;
            case 4: due("could " + place + " " + hour + flag, x.could(place, hour, flag),
                    y.could(place, hour, flag)); break;
            case 5: due("ways " + least, x.ways(least), y.ways(least)); break;
            case 6: due("crew " + bits + " " + least + " " + k, x.crew(bits, least, k),
                    y.crew(bits, least, k)); break;
            default: due("crowd " + place + " " + hour + " " + n + " " + k, x.crowd(place, hour, n, k),
                    y.crowd(place, hour, n, k)); break;
        }
    }

    private int sighting() {
        return random.nextInt(Math.max(1, y.has(4)) + 2) - 1;
    }

    private int shade() {
        return random.nextInt(Math.max(1, y.has(2)) + 3) - 2;
    }

    private int least() {
        return new int[] {0, 0, 0, random.nextInt(1002), random.nextInt(500), -1}[random.nextInt(6)];
    }

    private int bits() {
        int bits = 0;
        for (int n = random.nextInt(9); n > 0; n--) {
            int s = random.nextInt(Math.max(1, y.has(4)));
            bits |= y.seen(s, 5) == -1 || random.nextInt(20) == 0 ? 1 << s : 0;
        }
        return random.nextInt(30) == 0 ? bits | 1 << random.nextInt(32) : bits;
    }

    private void due(String call, int got, int want) {
        calls++;
        CHECK.due(run + call, got, want);
    }
}
