/** Promises 22, 23 and 27: hire, undo, shade. */
public final class HiresTest {
    private static final Check CHECK = new Check("HiresTest");
    private static final int LOW = Integer.MIN_VALUE;
    private static final int HIGH = Integer.MAX_VALUE;

    public static void main(String[] args) {
        hires();
        refusesHires();
        undoes();
        undoesThirty();
        undoesTakes();
        tellsOfShades();
        CHECK.end();
    }

    private static void hires() {
        HiredShades x = Guilds.made(Guilds.SMALL);
        CHECK.due("hire(1, 0)", x.hire(1, 0), true);
        CHECK.due("seen(1, 5)", x.seen(1, 5), 0);
        CHECK.due("hire(0, 0): can't be at both", x.hire(0, 0), false);
        CHECK.due("hire(0, 1)", x.hire(0, 1), true);
        CHECK.due("hire(2, 0)", x.hire(2, 0), true);
        CHECK.due("hire(2, 1): another one, who can", x.hire(2, 1), true);
        CHECK.due("hire(1, 1): another one, who can't", x.hire(1, 1), false);
        CHECK.due("it stays", x.seen(1, 5), 0);
        CHECK.due("hire(1, NONE)", x.hire(1, -1), true);
        CHECK.due("seen(1, 5)", x.seen(1, 5), -1);
        CHECK.due("hire(0, 0): can be now", x.hire(0, 0), true);
        CHECK.due("has(7)", x.has(7), 2);
        CHECK.due("has(8)", x.has(8), 6);
    }

    private static void refusesHires() {
        HiredShades x = Guilds.made(Guilds.SMALL);
        CHECK.due("it is so already", x.hire(0, -1), false);
        for (int none : new int[] {-1, 4, 24, LOW, HIGH}) {
            CHECK.due("no SIGHTING", x.hire(none, 0), false);
            CHECK.due("no SIGHTING", x.hire(none, -1), false);
        }
        for (int none : new int[] {-2, 2, 5, LOW, HIGH}) {
            CHECK.due("no SHADE", x.hire(0, none), false);
        }
        CHECK.due("no acts", x.has(8), 0);
        x.hire(0, 1);
        CHECK.due("it is so already", x.hire(0, 1), false);
        CHECK.due("one act", x.has(8), 1);
    }

    private static void undoes() {
        HiredShades x = Guilds.made(Guilds.SMALL);
        CHECK.due("undo() of nothing", x.undo(), false);
        x.hire(0, 0);
        x.hire(0, 1);
        x.hire(0, -1);
        CHECK.due("undo()", x.undo(), true);
        CHECK.due("seen(0, 5)", x.seen(0, 5), 1);
        CHECK.due("undo()", x.undo(), true);
        CHECK.due("seen(0, 5)", x.seen(0, 5), 0);
        x.hire(2, 1);
        CHECK.due("undo()", x.undo(), true);
        CHECK.due("seen(2, 5)", x.seen(2, 5), -1);
        CHECK.due("seen(0, 5)", x.seen(0, 5), 0);
        CHECK.due("undo()", x.undo(), true);
        CHECK.due("has(7)", x.has(7), 0);
        CHECK.due("undo()", x.undo(), false);
    }

    private static void undoesThirty() {
        HiredShades x = Guilds.made(Guilds.SMALL);
        for (int n = 1; n <= 37; n++) {
            // by turns: 0, 1, none
            CHECK.due("hire " + n, x.hire(3, n % 3 - 1), true);
            CHECK.due("has(8)", x.has(8), Math.min(n, 30));
        }
        for (int n = 36; n > 6; n--) {
            CHECK.due("undo to " + n, x.undo(), true);
            CHECK.due("as it was", x.seen(3, 5), n % 3 - 1);
        }
        CHECK.due("has(8)", x.has(8), 0);
        CHECK.due("undo of the 31st", x.undo(), false);
        CHECK.due("it stays", x.seen(3, 5), 7 % 3 - 1);
        CHECK.due("hire", x.hire(3, 1), true);
        CHECK.due("undo", x.undo(), true);
        CHECK.due("as it was", x.seen(3, 5), 0);
    }

    private static void undoesTakes() {
        HiredShades x = Guilds.made(Guilds.SMALL);
        x.hire(3, 1);
        CHECK.due("take(6, 0)", x.take(6, 0), 15);
        CHECK.due("has(7)", x.has(7), 3);
        CHECK.due("one act", x.has(8), 2);
        CHECK.due("undo()", x.undo(), true);
        CHECK.due("has(7)", x.has(7), 1);
        CHECK.due("seen(3, 5)", x.seen(3, 5), 1);
    }

    private static void shade(HiredShades x, int shade, int... want) {
        for (int what = 0; what < 5; what++) {
            CHECK.due("shade(" + shade + ", " + what + ")", x.shade(shade, what), want[what]);
        }
        for (int none : new int[] {-1, 5, LOW, HIGH}) {
            CHECK.due("shade(" + shade + ", " + none + ")", x.shade(shade, none), -1);
        }
    }

    private static void tellsOfShades() {
        HiredShades x = Guilds.made(Guilds.SMALL);
        shade(x, 0, 0, 0, -1, 0, -1);
        x.hire(3, 0);
        shade(x, 0, 1, 7, 3, 0, 552);
        shade(x, 1, 0, 0, -1, 0, -1);
        x.hire(2, 1);
        x.hire(1, 1);
        shade(x, 1, 2, 27, 1, 1, 600);
        for (int none : new int[] {-1, 2, 5, LOW, HIGH}) {
            CHECK.due("shade of none", x.shade(none, 0), -1);
        }
        Guilds.tell(x, "traits t 100 100;person p 1;place a;shade s fee 3 2 fakes 0;seen p at a hour 50 light 100 dry;"
                + "seen p at a hour 8 light 90 dry;seen p at a hour 8 light 95 dry;seen p at a hour 99 light 10 rain;");
        for (int sighting = 0; sighting < 4; sighting++) {
            x.hire(sighting, 0);
        }
        shade(x, 0, 4, 12, 1, 91, 0);
        x.hire(0, -1);
        shade(x, 0, 3, 9, 1, 91, 50);
        x.hire(1, -1);
        x.hire(3, -1);
        shade(x, 0, 1, 3, 2, 0, 50);
    }
}
