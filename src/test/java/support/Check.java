/** Counts the answers that are not the ones that are due; end() tells them and sets the exit code. */
class Check {
    private final String name;
    private int count;
    private int wrong;

    Check(String name) {
        this.name = name;
    }

    void due(String call, long got, long want) {
        count++;
        if (got != want) {
            wrong++;
            if (wrong <= 40) {
                System.out.println(name + ": " + call + " answered " + got + ", due is " + want);
            }
        }
    }

    /** How many answers were looked at so far. */
    int count() {
        return count;
    }

    void due(String call, boolean got, boolean want) {
        due(call, got ? 1L : 0L, want ? 1L : 0L);
    }

    /** A guild's text with the number of its STATEMENTS. */
    void guild(HiredShades x, String text, int statements) {
        due("guild() of <" + text + ">", Guilds.tell(x, text), statements);
        due("fault(0) of <" + text + ">", x.fault(0), 0);
        due("fault(1) of <" + text + ">", x.fault(1), HiredShades.NONE);
    }

    /** A guild's text with a FAULT. */
    void faulty(HiredShades x, String text, int fault, int place) {
        due("guild() of <" + text + ">", Guilds.tell(x, text), HiredShades.NONE);
        due("fault(0) of <" + text + ">", x.fault(0), fault);
        due("fault(1) of <" + text + ">", x.fault(1), place);
    }

    /** Of a text with one sign ^ in it: it is taken out, and where it stood is the FAULT. */
    void marked(String text, int fault) {
        int place = text.indexOf('^');
        faulty(new HiredShades(), text.substring(0, place) + text.substring(place + 1), fault, place);
    }

    void end() {
        System.out.println(name + ": " + count + " answers, " + wrong + " not as due");
        if (wrong != 0) {
            System.exit(1);
        }
    }
}
