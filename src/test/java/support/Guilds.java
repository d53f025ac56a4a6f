/** Texts and images onto the tape of a HiredShades. */
final class Guilds {
    /** Two PERSONS, two SHADES, three PLACES in a row, four SIGHTINGS, two RULES. */
    static final String SMALL =
            "traits coat 50 20, gait 10 80;person ann 1 2;person bob 3 4;"
                    + "shade sam fee 5 1 9 fakes 0 0;shade tim fee 9 3 4 fakes 1 0;"
                    + "place mill;place inn;place sea;road mill inn 2;road inn sea 3;"
                    + "seen ann at mill hour 5 light 100 dry;seen ann at inn hour 6 light 50 rain;"
                    + "seen ann at inn hour 7 light 0 dry;seen bob at sea hour 6 light 80 dry;"
                    + "price fee*2 when wet=1;price fee+unlike when pass<900;tithe 10;";

    private Guilds() {
    }

    static void write(HiredShades x, int[] bytes) {
        x.end(0);
        for (int from = 0; from < bytes.length; from += 20) {
            int[] five = new int[5];
            for (int k = 0; k < 20; k++) {
                int it = from + k < bytes.length ? bytes[from + k] : 0;
                five[k / 4] = five[k / 4] << 8 | it;
            }
            x.feed(five[0], five[1], five[2], five[3], five[4]);
        }
        x.end(bytes.length);
    }

    static int[] bytes(String text) {
        int[] bytes = new int[text.length()];
        for (int k = 0; k < bytes.length; k++) {
            bytes[k] = text.charAt(k) & 255;
        }
        return bytes;
    }

    static int tell(HiredShades x, String text) {
        write(x, bytes(text));
        return x.guild();
    }

    /** A new object with this guild; it must be one. */
    static HiredShades made(String text) {
        HiredShades x = new HiredShades();
        if (tell(x, text) < 0) {
            throw new IllegalStateException("FAULT " + x.fault(0) + " at " + x.fault(1) + " of " + text);
        }
        return x;
    }

    static boolean load(HiredShades x, int... bytes) {
        write(x, bytes);
        return x.on();
    }
}
