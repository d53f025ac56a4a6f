/** Guilds by their SIGHTINGS, told as who, where, when: "pa5 qc10". */
final class Sightings {
    /** FAR: a and b 2, b and c 2, a and c 4; d can't be reached. The SHADES s and u pass for all. */
    static final String AHEAD = "traits t 10 10;person p 1;person q 1;person r 1;place a;place b;place c;place d;"
            + "road a b 2;road b c 2;shade s fee 3 1 fakes 0;shade u fee 5 1 fakes 0;";

    private Sightings() {
    }

    static HiredShades seen(String told) {
        return Guilds.made(AHEAD + text(told));
    }

    static String text(String told) {
        StringBuilder text = new StringBuilder();
        for (String one : told.split(" ")) {
            text.append("seen ").append(one.charAt(0)).append(" at ").append(one.charAt(1));
            text.append(" hour ").append(one.substring(2)).append(" light 50 dry;");
        }
        return text.toString();
    }

    /** A new object with this GUILD, the SHADES of its first SIGHTINGS being these. */
    static HiredShades hired(String told, int... shades) {
        HiredShades x = seen(told);
        for (int sighting = 0; sighting < shades.length; sighting++) {
            if (shades[sighting] >= 0 && !x.hire(sighting, shades[sighting])) {
                throw new IllegalStateException(told + ": " + shades[sighting] + " can't have " + sighting);
            }
        }
        return x;
    }
}
