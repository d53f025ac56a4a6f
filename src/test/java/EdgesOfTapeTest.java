/** The edges of promises 1 to 6: a new object, feed, end, guild, fault, has. */
public final class EdgesOfTapeTest {
    private static final Edges EDGES = new Edges("EdgesOfTapeTest");
    private static final int LOW = Edges.LOW;
    private static final int HIGH = Edges.HIGH;
    /** A GUILD with somebody HIRED, acts to undo, a seed, an image. */
    private static final Edges.Act BUSY = x -> {
        Guilds.tell(x, Guilds.SMALL);
        x.hire(0, 1);
        x.image();
        x.take(6, 0);
        x.seed(77);
    };

    public static void main(String[] args) {
        calls512();
        none();
        newObject();
        feedsTwenty();
        feedsUpTo1600();
        endsAlone();
        endsRefused();
        guildsCount();
        guildsWithFaultsLeaveAll();
        guildsWithoutStatements();
        guildsWithoutFaultsBeginAnew();
        faults();
        faultsOfNothingElse();
        counts();
        countsOfNothingElse();
        EDGES.end();
    }

    private static void calls512() {
        EDGES.says("An object is used for at most 512 calls after it has been made; what later calls answer is free.");
        HiredShades x = new HiredShades();
        x.feed(0x74726169, 0x74732061, 0x20312031, 0x3b706572, 0x736f6e20);
        x.feed(0x70203120, 0x3b706c61, 0x63652078, 0x3b736861, 0x64652073);
        x.feed(0x20666565, 0x20312031, 0x2066616b, 0x65732031, 0x3b736565);
        x.feed(0x6e207020, 0x61742078, 0x20686f75, 0x72203120, 0x6c696768);
        x.feed(0x74203120, 0x64727920, 0x3b202020, 0x20202020, 0x20202020);
        EDGES.due("guild(), the 6th call", x.guild(), 5);
        for (int call = 7; call <= 511; call++) {
            EDGES.due("call " + call, x.hire(0, call % 2 - 1), true);
        }
        EDGES.due("the 512th call", x.seen(0, 5), 0);
    }

    private static void none() {
        EDGES.says("The constants: `NONE = -1`: There is none; it is refused.");
        EDGES.due("NONE", HiredShades.NONE, -1);
    }

    private static void newObject() {
        EDGES.says("No TRAITS, nobody, nothing seen.");
        HiredShades x = new HiredShades();
        for (int what = 0; what <= 8; what++) {
            EDGES.due("has(" + what + ")", x.has(what), 0);
        }
        int[] none = {x.letter(0, 0, 0), x.letter(1, 0, 0), x.letter(2, 0, 0), x.letter(3, 0, 0), x.trait(0, -1, 0),
            x.trait(0, 0, 2), x.trait(0, 0, 3), x.seen(0, 0), x.seen(0, 5), x.far(0, 0), x.pass(0, 0), x.price(0, 0),
            x.best(0, true, 0), x.best(0, false, 0), x.whose(0, -1), x.whose(0, 0), x.canBe(0, 1), x.canBe(0, 0),
            x.chain(0, -1), x.chain(0, 0), x.shades(0), x.must(0), x.clash(0), x.could(0, 0, true), x.could(0, 0, false),
            x.crew(1, 0, -1), x.crew(0, 0, 0), x.take(0, 0), x.take(1, 0), x.crowd(0, 0, 1, -1), x.shade(0, 0),
            x.octet(0), x.fault(1)};
        for (int k = 0; k < none.length; k++) {
            EDGES.due("answer " + k, none[k], -1);
        }
        int[] zero = {x.shades(-1), x.crew(0, 0, -1), x.days(1, 0), x.days(100, 1), x.average(), x.fault(0)};
        for (int k = 0; k < zero.length; k++) {
            EDGES.due("answer " + k + " of 0", zero[k], 0);
        }
        EDGES.due("ways(0)", x.ways(0), 1);
        EDGES.due("hire(0, 0)", x.hire(0, 0), false);
        EDGES.due("hire(0, NONE)", x.hire(0, -1), false);
        EDGES.due("undo()", x.undo(), false);
        EDGES.due("on()", x.on(), false);
        EDGES.due("end(0)", x.end(0), true);
        EDGES.due("end(1)", x.end(1), false);
        EDGES.due("image()", x.image(), 1);
    }

    private static void feedsTwenty() {
        EDGES.says("Twenty bytes come behind those on the tape, of each number the highest first: how many there are;");
        HiredShades x = new HiredShades();
        EDGES.due("the first", x.feed(0x74726169, 0x74732061, 0x20312032, 0x3b706c61, 0x63652062), 20);
        EDGES.due("the second", x.feed(0x633b2020, 0x20202020, 0x20202020, 0x20202020, 0x2020200a), 40);
        EDGES.due("guild()", x.guild(), 2);
        EDGES.due("1 ahead of 2", x.trait(0, -1, 0), 1);
        EDGES.due("b ahead of c", x.letter(3, 0, 0), 2);
        EDGES.due("c behind b", x.letter(3, 0, 1), 3);
        EDGES.due("the tape is empty again", x.feed(0, 0, 0, 0, 0), 20);
        EDGES.due("behind seven", x.end(7) ? x.feed(0, 0, 0, 0, 0) : 0, 27);
        // a byte above 127 is no sign of a number below 0
        HiredShades y = Sightings.seen("pa5");
        y.feed(0xff000000, -1, LOW, HIGH, 0x80808080);
        EDGES.due("end(2)", y.end(2), true);
        EDGES.due("on() of 255 and 0", y.on(), false);
        y.feed(0x000a0000, 0, 0, 0, 0);
        y.end(2);
        EDGES.due("on() of 0 and 10", y.on(), false);
        y.feed(0x00090000, 0, 0, 0, 0);
        y.end(2);
        EDGES.due("on() of 0 and 9", y.on(), true);
        x.end(0);
        for (int n = 0; n < 20; n++) {
            int[] five = new int[5];
            five[n / 4] = 0x78 << 8 * (3 - n % 4);
            for (int k = 0; k < 20; k++) {
                five[k / 4] |= k == n ? 0 : 0x20 << 8 * (3 - k % 4);
            }
            x.feed(five[0], five[1], five[2], five[3], five[4]);
            x.guild();
            EDGES.due("the only byte that is no blank", x.fault(1), n);
        }
    }

    private static void fill(HiredShades x, int bytes) {
        x.end(0);
        for (int n = 0; n < bytes; n += 20) {
            x.feed(0x20202020, 0x20202020, 0x20202020, 0x20202020, 0x20202020);
        }
        x.end(bytes);
    }

    private static void feedsUpTo1600() {
        EDGES.says("NONE, doing nothing, if there would be more than 1600.");
        HiredShades x = new HiredShades();
        fill(x, 1560);
        EDGES.due("the 79th", x.feed(1, 2, 3, 4, 5), 1580);
        EDGES.due("the 80th", x.feed(1, 2, 3, 4, 5), 1600);
        EDGES.due("the 81st", x.feed(1, 2, 3, 4, 5), -1);
        EDGES.due("at 1599", x.end(1599) ? x.feed(1, 2, 3, 4, 5) : 0, -1);
        EDGES.due("at 1581", x.end(1581) ? x.feed(1, 2, 3, 4, 5) : 0, -1);
        EDGES.due("at 1580", x.end(1580) ? x.feed(1, 2, 3, 4, 5) : 0, 1600);
        for (int bytes : new int[] {1581, 1590, 1599, 1600}) {
            EDGES.nothingDone("feed at " + bytes, y -> {
                BUSY.on(y);
                fill(y, bytes);
            }, y -> y.feed(0x74726169, 0x74732061, 0x20312032, 0x3b706c61, 0x63652062));
        }
        // all 1600 are read
        String text = "traits t 1 1;" + " ".repeat(1579) + "place x;";
        EDGES.due("a text of 1600", text.length(), 1600);
        EDGES.guild(new HiredShades(), text, 2);
        EDGES.guild(new HiredShades(), " ".repeat(1587) + "traits t 1 1;", 1);
    }

    private static void endsAlone() {
        EDGES.says("The tape has its first n bytes alone: true;");
        HiredShades x = new HiredShades();
        EDGES.due("end(0) of none", x.end(0), true);
        Guilds.write(x, Guilds.bytes("traits a 1 1;tithe 100;"));
        EDGES.due("end(23) of 23", x.end(23), true);
        EDGES.due("end(13) of 23", x.end(13), true);
        EDGES.due("guild() of 13", x.guild(), 1);
        Guilds.write(x, Guilds.bytes("traits a 1 1;tithe 100;"));
        EDGES.due("end(12) of 23", x.end(12), true);
        EDGES.due("guild() of 12", x.guild(), -1);
        EDGES.due("its place", x.fault(1), 12);
        Guilds.write(x, Guilds.bytes("traits a 1 10;"));
        EDGES.due("end(12)", x.end(12), true);
        EDGES.due("feed behind 12", x.feed(0x30303b20, 0x20202020, 0x20202020, 0x20202020, 0x20202020), 32);
        EDGES.due("guild()", x.guild(), 1);
        EDGES.due("what was cut off is gone", x.trait(0, -1, 1), 100);
        cutOff("traits a 1 1", "0;", 1, 12);
        cutOff("traits a 1 101", "1", 2, 11);
        cutOff("trait", "s", 1, 0);
        cutOff("traits abcdef", "g", 1, 13);
        cutOff("traits a 1 1", ";", 1, 12);
        cutOff("traits a 1 1,", "b", 1, 13);
        cutOff("", "traits a 1 1;", 1, 0);
        Guilds.write(x, Guilds.bytes("traits a 1 1;"));
        EDGES.due("end(0)", x.end(0), true);
        EDGES.due("feed", x.feed(0, 0, 0, 0, 0), 20);
        EDGES.due("end(20)", x.end(20), true);
        EDGES.due("end(1)", x.end(1), true);
        EDGES.due("end(1) again", x.end(1), true);
        fill(x, 1600);
        EDGES.due("end(1600)", x.end(1600), true);
    }

    private static void cutOff(String left, String off, int fault, int place) {
        HiredShades x = new HiredShades();
        Guilds.write(x, Guilds.bytes(left + off));
        EDGES.due("end", x.end(left.length()), true);
        EDGES.due("guild() of <" + left + "> without <" + off + ">", x.guild(), -1);
        EDGES.due("its FAULT", x.fault(0), fault);
        EDGES.due("its place", x.fault(1), place);
    }

    private static void endsRefused() {
        EDGES.says("false, doing nothing, if it has not so many, or n is below 0.");
        HiredShades x = new HiredShades();
        for (int n : new int[] {1, 20, 1600, HIGH, -1, -20, LOW}) {
            EDGES.due("end(" + n + ") of none", x.end(n), false);
        }
        x.feed(0, 0, 0, 0, 0);
        for (int n : new int[] {21, 1600, HIGH, -1, LOW}) {
            EDGES.due("end(" + n + ") of 20", x.end(n), false);
            EDGES.nothingDone("end(" + n + ")", y -> {
                BUSY.on(y);
                y.feed(0x74726169, 0x74732061, 0x20312032, 0x3b706c61, 0x63652062);
            }, y -> y.end(n));
        }
        EDGES.due("end(7)", x.end(7), true);
        EDGES.due("end(8) of 7", x.end(8), false);
        EDGES.due("end(20) of 7", x.end(20), false);
        EDGES.due("end(7) of 7", x.end(7), true);
        fill(x, 1600);
        EDGES.due("end(1601)", x.end(1601), false);
    }

    private static void guildsCount() {
        EDGES.says("The tape (it goes) is THE GUILD: how many STATEMENTS;");
        HiredShades x = new HiredShades();
        EDGES.due("guild() of one", Guilds.tell(x, "traits a 1 1;"), 1);
        EDGES.due("the tape went", x.end(1), false);
        EDGES.due("guild() again", x.guild(), -1);
        EDGES.due("the GUILD stays", x.has(0), 1);
        EDGES.due("guild() of 17", Guilds.tell(x, Guilds.SMALL), 17);
        EDGES.due("guild() of two", Guilds.tell(x, "traits a 1 1,b 1 1;tithe 3;"), 2);
        int[] want = {2, 0, 0, 0, 0, 0, 3, 0, 0};
        for (int what = 0; what < 9; what++) {
            EDGES.due("nothing is left of another: has(" + what + ")", x.has(what), want[what]);
        }
        leavesNothingBehind();
        Guilds.tell(x, "traits a 1 1;place a^;");
        EDGES.due("the tape went with a FAULT, too", x.end(1), false);
        EDGES.due("feed", x.feed(0, 0, 0, 0, 0), 20);
    }

    /** A GUILD is the same behind others, right ones and ones with a FAULT, as it is at first. */
    private static void leavesNothingBehind() {
        String ahead = "traits t 1 1;person p 1;place a;place b;shade s fee 9 1 fakes 0;shade u fee 8 2 fakes 0;";
        String[] texts = {
            ahead + "seen p at a hour 9 light 9 dry;seen p at a hour 1 light 9 dry;seen p at b hour 5 light 99 dry;tithe 77;",
            ahead + "road a b 1;".repeat(20) + "seen p at b hour 3 light 9 dry;price " + "1+".repeat(500) + "1 when all;",
            ahead + "seen p at a hour 1 light 9 dry;seen p at b hour 9 light 50 rain;" + "price 7 when 1=2;".repeat(5),
            ahead + "seen p at b hour 1 light 9 dry;seen p at b hour 9 light 50 rain;price 7 when 1=2;",
            "traits x 1 1;",
        };
        String[] faulty = {"traits t 101 1;", texts[0] + "tithe 101;", texts[1] + "x;", texts[2] + "price 1 when all",
            texts[0] + "seen p at b hour 1 light 1 dry"};
        HiredShades x = new HiredShades();
        for (int turn = 0; turn < 60; turn++) {
            String text = texts[turn * 3 % 5];
            if (turn >= 20) {
                Guilds.tell(x, faulty[(turn + turn / 20) % 5]);
            }
            Guilds.tell(x, text);
            x.image();
            x.seed(turn);
            HiredShades y = Guilds.made(text);
            y.image();
            y.seed(turn);
            EDGES.due("turn " + turn, Probe.ofAll(x).equals(Probe.ofAll(y)), true);
        }
    }

    private static void guildsWithFaultsLeaveAll() {
        EDGES.says("NONE with a FAULT (all stays;");
        String[] faulty = {"", " ", "x", "traits a 101 1;", "traits b 2 2;person b 1;",
            "traits b 2 2,c 3 3;person q 5 5;place z;place y;road z y 1;shade g fee 9 9 9 fakes 1 1;"
                + "seen q at z hour 9 light 9 rain;price 9 when all;tithe 99;price((((((((", Guilds.SMALL + "x",
            "traits b 1 1;" + "tithe 9;".repeat(90)};
        for (String text : faulty) {
            EDGES.due("guild() of <" + text + ">", Guilds.tell(new HiredShades(), text), -1);
            EDGES.allStays("guild() of <" + text + ">", BUSY, x -> Guilds.tell(x, text));
            EDGES.allStays("guild() of <" + text + "> at first", x -> { }, x -> Guilds.tell(x, text));
        }
    }

    private static void guildsWithoutStatements() {
        EDGES.says("one without a STATEMENT has FAULT 1 at its length).");
        HiredShades x = new HiredShades();
        EDGES.due("guild() of a new one", x.guild(), -1);
        EDGES.due("its FAULT", x.fault(0), 1);
        EDGES.due("its place", x.fault(1), 0);
        EDGES.faulty(x, "", 1, 0);
        EDGES.faulty(x, " ", 1, 1);
        EDGES.faulty(x, "\n", 1, 1);
        EDGES.faulty(x, " \n \n", 1, 4);
        fill(x, 1600);
        EDGES.due("guild() of 1600 blanks", x.guild(), -1);
        EDGES.due("its FAULT", x.fault(0), 1);
        EDGES.due("its place", x.fault(1), 1600);
    }

    private static void guildsWithoutFaultsBeginAnew() {
        EDGES.says("Without one nobody is HIRED, nothing can be undone; the seed stays.");
        HiredShades x = new HiredShades();
        BUSY.on(x);
        EDGES.due("HIRED ahead", x.has(7), 3);
        EDGES.due("acts ahead", x.has(8), 2);
        EDGES.due("guild()", Guilds.tell(x, Guilds.SMALL), 17);
        EDGES.due("HIRED", x.has(7), 0);
        for (int sighting = 0; sighting < 4; sighting++) {
            EDGES.due("seen(" + sighting + ", 5)", x.seen(sighting, 5), -1);
        }
        EDGES.due("acts", x.has(8), 0);
        EDGES.due("undo()", x.undo(), false);
        EDGES.due("hire", x.hire(0, 1), true);
        EDGES.due("acts of the new one", x.has(8), 1);
        HiredShades other = Guilds.made(Guilds.SMALL);
        other.hire(0, 1);
        other.seed(77);
        for (int day = 0; day < 30; day++) {
            EDGES.due("the seed stays: DAY " + day, x.days(1, 1), other.days(1, 1));
        }
        EDGES.due("undo()", x.undo(), true);
        EDGES.due("undo()", x.undo(), false);
        // with fewer SHADES and SIGHTINGS than were HIRED
        BUSY.on(x);
        Guilds.tell(x, "traits t 1 1;");
        EDGES.due("days", x.days(100, 0), 0);
        EDGES.due("average", x.average(), 0);
    }

    private static void faults() {
        EDGES.says("Of the latest guild(): its FAULT (what 0; 0 without, and ahead of any), its place (1; NONE without).");
        HiredShades x = new HiredShades();
        EDGES.due("fault(0) ahead of any", x.fault(0), 0);
        EDGES.due("fault(1) ahead of any", x.fault(1), -1);
        EDGES.faulty(x, "traits a 101 1;", 2, 9);
        EDGES.due("feed leaves it", x.feed(0, 0, 0, 0, 0), 20);
        EDGES.due("fault(0)", x.fault(0), 2);
        EDGES.due("on() leaves it", x.on(), false);
        EDGES.due("fault(1)", x.fault(1), 9);
        EDGES.faulty(x, "traits a 1 1,a 1 1;", 3, 13);
        EDGES.guild(x, "traits a 1 1;", 1);
        EDGES.faulty(x, "traits a 1 1;price(((((((1", 4, 24);
        EDGES.faulty(x, "traits a 1 1;" + "price 1 when all;".repeat(7), 5, 13 + 6 * 17);
        EDGES.faulty(x, "", 1, 0);
        EDGES.guild(x, Guilds.SMALL, 17);
    }

    private static void faultsOfNothingElse() {
        EDGES.says("NONE for another what.");
        HiredShades x = new HiredShades();
        for (int turn = 0; turn < 3; turn++) {
            for (int what : new int[] {2, 3, -1, -2, LOW, HIGH}) {
                EDGES.due("fault(" + what + ")", x.fault(what), -1);
            }
            Guilds.tell(x, turn == 0 ? "traits a 101 1;" : Guilds.SMALL);
        }
    }

    private static void counts() {
        EDGES.says("How many there are: 0 TRAITS, 1 PERSONS, 2 SHADES, 3 PLACES, 4 SIGHTINGS, 5 RULES, 6 tithe, 7 SIGHTINGS that"
                + " SHADES have, 8 acts that can be undone.");
        HiredShades x = Guilds.made("traits a 1 1,b 1 1,c 1 1,d 1 1,e 1 1;person p 1 1 1 1 1;person q 1 1 1 1 1;"
                + "shade s fee 1 1 1 1 1 1 fakes 0 0 0 0 0;shade u fee 1 1 1 1 1 1 fakes 0 0 0 0 0;"
                + "shade v fee 1 1 1 1 1 1 fakes 0 0 0 0 0;place x;place y;place z;place w;"
                + "seen p at x hour 1 light 1 dry;".repeat(6) + "price 1 when all;tithe 44;");
        int[] want = {5, 2, 3, 4, 6, 1, 44, 0, 0};
        for (int what = 0; what < 9; what++) {
            EDGES.due("has(" + what + ")", x.has(what), want[what]);
        }
        EDGES.due("take of three", x.take(7, 0), 3);
        EDGES.due("HIRED", x.has(7), 3);
        EDGES.due("one act", x.has(8), 1);
        EDGES.due("one more", x.hire(3, 0), true);
        EDGES.due("HIRED", x.has(7), 4);
        EDGES.due("another SHADE", x.hire(3, 1), true);
        EDGES.due("HIRED", x.has(7), 4);
        EDGES.due("three acts", x.has(8), 3);
        EDGES.due("none", x.hire(3, -1), true);
        EDGES.due("HIRED", x.has(7), 3);
        EDGES.due("four acts", x.has(8), 4);
        EDGES.due("refused", x.hire(3, -1), false);
        EDGES.due("four acts", x.has(8), 4);
        EDGES.due("undo()", x.undo(), true);
        EDGES.due("HIRED", x.has(7), 4);
        EDGES.due("three acts", x.has(8), 3);
        for (int n = 0; n < 40; n++) {
            x.hire(5, n % 2);
            EDGES.due("acts", x.has(8), Math.min(30, 4 + n));
        }
    }

    private static void countsOfNothingElse() {
        EDGES.says("NONE for others.");
        for (int what : new int[] {9, 10, -1, -2, LOW, HIGH}) {
            EDGES.due("has(" + what + ")", Guilds.made(Guilds.SMALL).has(what), -1);
            EDGES.due("has(" + what + ") at first", new HiredShades().has(what), -1);
        }
    }
}
