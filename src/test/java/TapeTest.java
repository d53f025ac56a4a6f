/** Promises 2 and 3: feed and end. */
public final class TapeTest {
    private static final Check CHECK = new Check("TapeTest");

    public static void main(String[] args) {
        fillsToItsLimit();
        shortensAlone();
        putsTheHighestByteFirst();
        forgetsWhatWasCutOff();
        CHECK.end();
    }

    private static void fillsToItsLimit() {
        HiredShades x = new HiredShades();
        for (int n = 1; n <= 80; n++) {
            CHECK.due("feed " + n, x.feed(n, -n, 0, Integer.MIN_VALUE, Integer.MAX_VALUE), 20 * n);
        }
        CHECK.due("feed at 1600", x.feed(0, 0, 0, 0, 0), -1);
        CHECK.due("end(1581)", x.end(1581), true);
        CHECK.due("feed at 1581", x.feed(0, 0, 0, 0, 0), -1);
        CHECK.due("end(1581) again: nothing was done", x.end(1582), false);
        CHECK.due("end(1580)", x.end(1580), true);
        CHECK.due("feed at 1580", x.feed(0, 0, 0, 0, 0), 1600);
    }

    private static void shortensAlone() {
        HiredShades x = new HiredShades();
        CHECK.due("end(0) of nothing", x.end(0), true);
        CHECK.due("end(1) of nothing", x.end(1), false);
        CHECK.due("end(-1)", x.end(-1), false);
        CHECK.due("end(least)", x.end(Integer.MIN_VALUE), false);
        CHECK.due("feed", x.feed(1, 2, 3, 4, 5), 20);
        CHECK.due("end(21)", x.end(21), false);
        CHECK.due("end(20)", x.end(20), true);
        CHECK.due("end(7)", x.end(7), true);
        CHECK.due("end(8)", x.end(8), false);
        CHECK.due("end(-1) of 7", x.end(-1), false);
        CHECK.due("feed behind 7", x.feed(1, 2, 3, 4, 5), 27);
    }

    private static void forgetsWhatWasCutOff() {
        cut("traits a 1 10", "1;", 1, 13);
        cut("traits a 1 1;tithe", "s", 1, 18);
        cut("traits a 1 1;place abcdef", "g", 1, 25);
        cut("traits a 1 1;place abcde", "f", 1, 24);
        cut("traits a 1 1;tithe 1111", "1", 2, 19);
        cut("traits a 1 1", ";", 1, 12);
        cut("traits a 1 1;price 1 when all", ";", 1, 29);
        cut("", "traits a 1 1;", 1, 0);
        HiredShades x = new HiredShades();
        Guilds.write(x, Guilds.bytes("traits a 1 1;x"));
        x.end(13);
        CHECK.due("guild() of what is left", x.guild(), 1);
    }

    private static void cut(String left, String off, int fault, int place) {
        HiredShades x = new HiredShades();
        Guilds.write(x, Guilds.bytes(left + off));
        CHECK.due("end", x.end(left.length()), true);
        CHECK.due("guild() of <" + left + "> without <" + off + ">", x.guild(), -1);
        CHECK.due("its FAULT", x.fault(0), fault);
        CHECK.due("its place", x.fault(1), place);
    }

    private static void putsTheHighestByteFirst() {
        HiredShades x = new HiredShades();
        x.feed(0x74726169, 0x74732061, 0x20312032, 0x3b706c61, 0x63652062);
        x.feed(0x3b202020, 0x20202020, 0x20202020, 0x20202020, 0x20202020);
        CHECK.due("guild() of two feeds", x.guild(), 2);
        CHECK.due("the first TRAIT", x.letter(0, 0, 0), 1);
        CHECK.due("the first PLACE", x.letter(3, 0, 0), 2);
        CHECK.due("the tape is gone", x.end(1), false);
    }
}
