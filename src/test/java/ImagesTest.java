/** Promises 31 to 33: image, octet, on. */
public final class ImagesTest {
    private static final Check CHECK = new Check("ImagesTest");

    public static void main(String[] args) {
        writes();
        staysUntilTheNext();
        reads();
        refuses();
        bytesAreNotBelowZero();
        CHECK.end();
    }

    private static int[] withCheck(int... bytes) {
        int[] all = java.util.Arrays.copyOf(bytes, bytes.length + 1);
        int check = 73;
        for (int it : bytes) {
            check = (7 * check + it) % 251;
        }
        all[bytes.length] = check;
        return all;
    }

    private static void writes() {
        HiredShades x = new HiredShades();
        CHECK.due("octet ahead of any", x.octet(0), -1);
        CHECK.due("image of nothing", x.image(), 1);
        CHECK.due("octet 0", x.octet(0), 73);
        Guilds.tell(x, Guilds.SMALL);
        x.hire(1, 0);
        x.hire(0, 1);
        CHECK.due("image", x.image(), 5);
        int[] want = withCheck(2, 1, 0, 0);
        for (int k = 0; k < 5; k++) {
            CHECK.due("octet " + k, x.octet(k), want[k]);
        }
        // 73: 511 + 2 = 513 - 502 = 11: 77 + 1 = 78: 546 - 502 = 44: 308 - 251 = 57
        CHECK.due("the last byte", x.octet(4), 57);
        for (int k : new int[] {5, -1, Integer.MIN_VALUE, Integer.MAX_VALUE}) {
            CHECK.due("octet " + k, x.octet(k), -1);
        }
    }

    private static void staysUntilTheNext() {
        HiredShades x = Guilds.made(Guilds.SMALL);
        x.hire(0, 0);
        x.image();
        x.hire(0, 1);
        CHECK.due("octet 0 of the latest", x.octet(0), 1);
        Guilds.tell(x, "traits t 1 1;");
        CHECK.due("octet 0 with another guild", x.octet(0), 1);
        CHECK.due("octet 4 with another guild", x.octet(4) >= 0, true);
        CHECK.due("image", x.image(), 1);
        CHECK.due("octet 0", x.octet(0), 73);
        CHECK.due("octet 1", x.octet(1), -1);
    }

    private static void reads() {
        HiredShades x = Guilds.made(Guilds.SMALL);
        x.hire(2, 0);
        CHECK.due("on()", Guilds.load(x, withCheck(2, 1, 1, 0)), true);
        int[] want = {1, 0, 0, -1};
        for (int k = 0; k < 4; k++) {
            CHECK.due("seen(" + k + ", 5)", x.seen(k, 5), want[k]);
        }
        CHECK.due("nothing can be undone", x.has(8), 0);
        CHECK.due("undo()", x.undo(), false);
        CHECK.due("the tape is gone", x.end(1), false);
        CHECK.due("on() of an empty tape", x.on(), false);
        x.hire(3, 1);
        CHECK.due("seen(3, 5): tim is at the mill at 5", x.seen(3, 5), -1);
        CHECK.due("on() with none", Guilds.load(x, withCheck(0, 0, 0, 0)), true);
        CHECK.due("has(7)", x.has(7), 0);
        CHECK.due("on() of nothing", Guilds.load(new HiredShades(), 73), true);
    }

    private static void refuses() {
        HiredShades x = Guilds.made(Guilds.SMALL);
        x.hire(2, 1);
        int[] good = withCheck(2, 1, 1, 0);
        int[][] bad = {
            {}, {73}, {0}, withCheck(2, 1, 1), withCheck(2, 1, 1, 0, 0), withCheck(3, 1, 1, 0), withCheck(2, 1, 1, 255),
            withCheck(1, 1, 0, 0), withCheck(0, 1, 0, 1), withCheck(2, 0, 0, 2), {2, 1, 1, 0, good[4] + 1}, {2, 1, 1, 0, 251 + good[4] & 255},
            {2, 1, 1, 0}, {1, 2, 1, 0, good[4]}
        };
        for (int[] bytes : bad) {
            CHECK.due("on() of " + java.util.Arrays.toString(bytes), Guilds.load(x, bytes), false);
            CHECK.due("the tape is gone", x.end(1), false);
            CHECK.due("all stays", x.seen(2, 5), 1);
            CHECK.due("all stays", x.has(7), 1);
            CHECK.due("acts stay", x.has(8), 1);
        }
        CHECK.due("on() of a good one", Guilds.load(x, good), true);
    }

    private static void bytesAreNotBelowZero() {
        HiredShades x = Guilds.made("traits t 1 1;person p 1;place a;shade s fee 1 1 fakes 0;"
                + "seen p at a hour 1 light 1 dry;");
        for (int it = 0; it < 256; it++) {
            CHECK.due("on() with " + it, Guilds.load(x, withCheck(it)), it <= 1);
        }
    }
}
