/** All that calls can tell of an object, as a text. The object is used up by it. */
final class Probe {
    private final HiredShades x;
    private final StringBuilder told = new StringBuilder();

    private Probe(HiredShades x) {
        this.x = x;
    }

    static String ofAll(HiredShades x) {
        Probe probe = new Probe(x);
        probe.tell(x.fault(0), x.fault(1));
        probe.lists();
        probe.whatMoves();
        probe.tape();
        return probe.told.toString();
    }

    /** Without the tape and the FAULT of the latest guild(). */
    static String ofState(HiredShades x) {
        Probe probe = new Probe(x);
        probe.lists();
        probe.whatMoves();
        return probe.told.toString();
    }

    private void tell(int... answers) {
        for (int answer : answers) {
            told.append(answer).append(' ');
        }
    }

    private void lists() {
        for (int what = 0; what <= 8; what++) {
            tell(x.has(what));
        }
        for (int kind = 0; kind < 4; kind++) {
            for (int which = 0; which < x.has(kind); which++) {
                tell(x.letter(kind, which, 0), x.letter(kind, which, 1));
            }
        }
        for (int trait = 0; trait < x.has(0); trait++) {
            tell(x.trait(trait, -1, 0), x.trait(trait, -1, 1), x.trait(trait, 0, 2));
            tell(x.trait(trait, 0, 3), x.trait(trait, 0, 4));
        }
        for (int place = 1; place < x.has(3); place++) {
            tell(x.far(0, place));
        }
        for (int person = 0; person < x.has(1); person++) {
            tell(x.chain(person, -1), x.chain(person, 0));
        }
        for (int shade = 0; shade < x.has(2); shade++) {
            tell(x.shade(shade, 2), x.shade(shade, 3));
        }
        for (int sighting = 0; sighting < x.has(4); sighting++) {
            for (int what = 0; what < 6; what++) {
                tell(x.seen(sighting, what));
            }
            for (int shade = 0; shade < x.has(2); shade++) {
                tell(x.pass(shade, sighting), x.price(shade, sighting));
            }
        }
    }

    /** The image, the seed, and the acts that can be undone. */
    private void whatMoves() {
        for (int k = 0; k < 26; k++) {
            tell(x.octet(k));
        }
        tell(x.average(), x.days(100, 0), x.days(100, 1));
        for (int n = 0; n < 31 && x.undo(); n++) {
            for (int sighting = 0; sighting < x.has(4); sighting++) {
                tell(x.seen(sighting, 5));
            }
        }
        // Drawn for by hand, that the seed is told even where nobody was HIRED.
        if (x.hire(0, 0)) {
            tell(x.hire(1, 0) ? 1 : 0, x.days(100, 0), x.days(100, 1), x.shade(0, 2), x.shade(0, 3));
        }
    }

    private void tape() {
        tell(x.feed(0x20202020, 0x20202020, 0x20202020, 0x20202020, 0x20202020));
        tell(x.guild(), x.fault(0), x.fault(1));
        tell(x.has(0), x.has(1), x.letter(0, 0, 0), x.letter(1, 0, 0), x.has(8), x.has(7));
    }
}
