import java.util.ArrayList;
import java.util.Arrays;
import java.util.List;

/** The edges of Terms I: FAULTS and their places. */
public final class EdgesOfFaultsTest {
    private static final Edges EDGES = new Edges("EdgesOfFaultsTest");
    private static final String T = "traits t 1 1;";
    private static final String BASE = "traits t 1 1;person p 1;shade s fee 1 1 fakes 1;place x;place y;";

    private static final String NUMBER = "1";
    private static final String SUM = "1 ( min max fee hour light wet unlike pass";
    private static final String FACT = SUM + " not [ all";
    private static final String MORE = "+ - * /";
    private static final String SIGNS = MORE + " < > =";
    /** Where a NAME is asked: a new one, a PLACE's, a PLACE's but x, a PERSON's. */
    private static final String NEW = "NEW";
    private static final String PLACE = "PLACE";
    private static final String OTHER = "OTHER";
    private static final String PERSON = "PERSON";

    /** What stands ahead, and what may go on there. */
    private static final String[][] STATES = {
        {"", "traits"}, {"traits ", NEW}, {"traits a ", NUMBER}, {"traits a 1 ", NUMBER}, {"traits a 1 1 ", ", ;"},
        {"traits a 1 1 , ", NEW}, {"traits a 1 1 , b ", NUMBER}, {"traits a 1 1 , b 1 ", NUMBER},
        {"traits a 1 1 , b 1 1 ", ", ;"}, {"traits a 1 1,b 1 1,c 1 1,d 1 1,e 1 1 ", ", ;"},
        {"traits a 1 1,b 1 1,c 1 1,d 1 1,e 1 1,f 1 1 ", ";"},
        {BASE, "person shade place road seen price tithe"},
        {BASE + "person ", NEW}, {BASE + "person q ", NUMBER}, {BASE + "person q 1 ", ";"},
        {BASE + "shade ", NEW}, {BASE + "shade q ", "fee"}, {BASE + "shade q fee ", NUMBER},
        {BASE + "shade q fee 1 ", NUMBER}, {BASE + "shade q fee 1 1 ", "fakes"},
        {BASE + "shade q fee 1 1 fakes ", NUMBER}, {BASE + "shade q fee 1 1 fakes 1 ", ";"},
        {BASE + "place ", NEW}, {BASE + "place q ", ";"},
        {BASE + "road ", PLACE}, {BASE + "road x ", OTHER}, {BASE + "road x y ", NUMBER}, {BASE + "road x y 1 ", ";"},
        {BASE + "seen ", PERSON}, {BASE + "seen p ", "at"}, {BASE + "seen p at ", PLACE},
        {BASE + "seen p at x ", "hour"}, {BASE + "seen p at x hour ", NUMBER}, {BASE + "seen p at x hour 1 ", "light"},
        {BASE + "seen p at x hour 1 light ", NUMBER}, {BASE + "seen p at x hour 1 light 1 ", "rain dry"},
        {BASE + "seen p at x hour 1 light 1 rain ", ";"}, {BASE + "seen p at x hour 1 light 1 dry ", ";"},
        {BASE + "price ", SUM}, {BASE + "price 1 ", MORE + " when"}, {BASE + "price fee ", MORE + " when"},
        {BASE + "price 1 + ", SUM}, {BASE + "price 1 - ", SUM}, {BASE + "price 1 * ", SUM}, {BASE + "price 1 / ", SUM},
        {BASE + "price 1 + 1 ", MORE + " when"}, {BASE + "price 1 * 1 ", MORE + " when"},
        {BASE + "price ( ", SUM}, {BASE + "price ( 1 ", MORE + " )"}, {BASE + "price ( 1 ) ", MORE + " when"},
        {BASE + "price min ", "("}, {BASE + "price min ( ", SUM}, {BASE + "price min ( 1 ", MORE + " ,"},
        {BASE + "price min ( 1 , ", SUM}, {BASE + "price min ( 1 , 1 ", MORE + " )"},
        {BASE + "price min ( 1 , 1 ) ", MORE + " when"},
        {BASE + "price max ", "("}, {BASE + "price max ( ", SUM}, {BASE + "price max ( 1 ", MORE + " ,"},
        {BASE + "price max ( 1 , ", SUM}, {BASE + "price max ( 1 , 1 ", MORE + " )"},
        {BASE + "price 1 when ", FACT}, {BASE + "price 1 when all ", "and or ;"}, {BASE + "price 1 when 1 ", SIGNS},
        {BASE + "price 1 when pass ", SIGNS}, {BASE + "price 1 when ( 1 ) ", SIGNS}, {BASE + "price 1 when ( ", SUM},
        {BASE + "price 1 when 1 < ", SUM}, {BASE + "price 1 when 1 > ", SUM}, {BASE + "price 1 when 1 = ", SUM},
        {BASE + "price 1 when 1 < 1 ", MORE + " and or ;"}, {BASE + "price 1 when 1 > fee ", MORE + " and or ;"},
        {BASE + "price 1 when not ", FACT}, {BASE + "price 1 when not all ", "and or ;"},
        {BASE + "price 1 when not 1 ", SIGNS}, {BASE + "price 1 when [ ", FACT}, {BASE + "price 1 when [ all ", "and or ]"},
        {BASE + "price 1 when [ 1 = 1 ", MORE + " and or ]"}, {BASE + "price 1 when [ all ] ", "and or ;"},
        {BASE + "price 1 when all and ", FACT}, {BASE + "price 1 when all or ", FACT},
        {BASE + "price 1 when all and all ", "and or ;"}, {BASE + "price 1 when all or all ", "and or ;"},
        {BASE + "tithe ", NUMBER}, {BASE + "tithe 1 ", ";"},
    };

    private static final List<String> TOKENS = new ArrayList<>(Arrays.asList(("traits person shade fee fakes place road "
            + "seen at hour light rain dry price when tithe or and not all wet unlike pass min max "
            + "t p s x y n trait traitss alll wets 1 ; , ( ) [ ] < > = + - * / . : ! & | { } \" ' A Z ` ~").split(" ")));

    static {
        for (int sign : new int[] {0, 9, 13, 31, 127, 128, 160, 255}) {
            TOKENS.add(String.valueOf((char) sign));
        }
    }

    public static void main(String[] args) {
        firstAlongTheText();
        firstByteThatDoesNotGoOn();
        wordsAndNumbersWhole();
        ownWordsWhereNamesAreAsked();
        seventhLetters();
        fifthDigits();
        seventhTrait();
        textsThatEndTooSoon();
        numbersThatCantBe();
        namesThatAreThereAlready();
        namesThatAreNoneOfWhatIsAsked();
        firstPlaceAgain();
        seventhThatIsOpen();
        openUntilItEnds();
        oneTooManyOfAKind();
        ninetyFirstStatement();
        EDGES.end();
    }

    private static void firstAlongTheText() {
        EDGES.says("FAULTS, the first along the text:");
        EDGES.marked("traits a ^101 101;person a 10;", 2);
        EDGES.marked("traits a 1 ^101;;", 2);
        EDGES.marked("traits a 1 1,^a 101 1;", 3);
        EDGES.marked("traits a 1 1,b ^101 1,a 1 1;", 2);
        EDGES.marked(T + "person ^t 10;", 3);
        EDGES.marked(T + "person ^at 10;", 1);
        EDGES.marked(T + "^xx;place t;tithe 101;", 1);
        EDGES.marked(T + "place x;road ^y y 0;", 3);
        EDGES.marked(T + "place x;road x ^x 0;", 3);
        EDGES.marked(T + "place x;seen ^q at z hour 100 light 101 wet;", 3);
        EDGES.marked(T + "price((((((^(1)))))))+x when all;", 4);
        EDGES.marked(T + "price 1+^x+(((((((1)))))))when all;", 1);
        EDGES.marked(T + "price 1 when all;".repeat(6) + "^price x;", 5);
        EDGES.marked(T + "price 1 when all;".repeat(5) + "price ^x;price 1 when all;", 1);
    }

    private static boolean isOwnWord(String word) {
        return TOKENS.indexOf(word) >= 0 && TOKENS.indexOf(word) < 25;
    }

    /** Which FAULT a token has at its first byte behind some text; 0 if it goes on there. */
    private static int faultOf(String goesOn, String token) {
        boolean isName = Character.isLowerCase(token.charAt(0)) && token.charAt(0) < 128 && !isOwnWord(token);
        switch (goesOn) {
            case NEW:
                return !isName ? 1 : token.length() > 6 ? -1 : isGiven(token) ? 3 : 0;
            case PLACE:
                return !isName ? 1 : token.length() > 6 ? -1 : token.equals("x") || token.equals("y") ? 0 : 3;
            case OTHER:
                return !isName ? 1 : token.length() > 6 ? -1 : token.equals("y") ? 0 : 3;
            case PERSON:
                return !isName ? 1 : token.length() > 6 ? -1 : token.equals("p") ? 0 : 3;
            default:
                return Arrays.asList(goesOn.split(" ")).contains(token) ? 0 : 1;
        }
    }

    private static boolean isGiven(String name) {
        return name.length() == 1 && "tpsxy".contains(name);
    }

    private static void firstByteThatDoesNotGoOn() {
        EDGES.says("1 the first byte with which no such text goes on");
        for (String[] state : STATES) {
            for (String token : TOKENS) {
                // in the first STATEMENT nothing of BASE is given yet
                boolean isFirst = !state[0].startsWith(BASE);
                int want = isFirst && isGiven(token) && state[1].equals(NEW) ? 0 : faultOf(state[1], token);
                HiredShades x = new HiredShades();
                int statements = Guilds.tell(x, state[0] + token);
                int got = x.fault(1) == state[0].length() ? x.fault(0) : 0;
                if (want == -1) {
                    got = x.fault(0);
                    EDGES.due("<" + token + "> behind " + state[0], x.fault(1), state[0].length() + 6);
                    want = 1;
                }
                EDGES.due("<" + token + "> behind " + state[0], got, want);
                boolean isWhole = want == 0 && token.equals(";");
                EDGES.due("<" + token + "> behind " + state[0], statements == -1, !isWhole);
            }
        }
    }

    private static void wordsAndNumbersWhole() {
        EDGES.says("(words and numbers whole, at their first byte;");
        EDGES.marked("^traitsx a 1 1;", 1);
        EDGES.marked("^trait a 1 1;", 1);
        EDGES.marked("^traitz a 1 1;", 1);
        EDGES.marked("^tr", 1);
        EDGES.marked("^1234", 1);
        EDGES.marked("^12345", 1);
        EDGES.marked(T + "^persons p 1;", 1);
        EDGES.marked(T + "^perso p 1;", 1);
        EDGES.marked(T + "^placeholder;", 1);
        EDGES.marked(T + "shade s ^feee 1;", 1);
        EDGES.marked(T + "shade s ^fe 1;", 1);
        EDGES.marked(T + "shade s ^feeeeeeee 1;", 1);
        EDGES.marked(BASE + "seen p at x hour 1 light 1 ^drying;", 1);
        EDGES.marked(BASE + "seen p at x hour 1 light 1 ^rainrain;", 1);
        EDGES.marked(T + "price ^feed when all;", 1);
        EDGES.marked(T + "price ^minn(1,2) when all;", 1);
        EDGES.marked(T + "price ^abcdefgh when all;", 1);
        EDGES.marked(T + "price 1 when ^alle;", 1);
        EDGES.marked(T + "price 1 when all ^order;", 1);
        EDGES.marked(T + "tithe 1 ^12345;", 1);
        EDGES.marked("traits ^12345 1 1;", 1);
        EDGES.marked(T + "place x ^123456;", 1);
    }

    private static void ownWordsWhereNamesAreAsked() {
        EDGES.says("where a NAME is asked, an OWN WORD so,");
        EDGES.marked("traits ^traits", 1);
        EDGES.marked("traits ^max 101 1;", 1);
        EDGES.marked(BASE + "person ^person 10;", 1);
        EDGES.marked(BASE + "shade ^or;", 1);
        EDGES.marked(BASE + "place ^at", 1);
        EDGES.marked(BASE + "road ^road y 1;", 1);
        EDGES.marked(BASE + "road x ^when 1;", 1);
        EDGES.marked(BASE + "seen ^seen at x", 1);
        EDGES.marked(BASE + "seen p at ^at x", 1);
    }

    private static void seventhLetters() {
        EDGES.says("a 7th letter at itself;");
        String[] asked = {"traits #", "traits a 1 1,#", BASE + "person #", BASE + "shade #", BASE + "place #", BASE + "road #",
            BASE + "road x #", BASE + "seen #", BASE + "seen p at #"};
        for (String ahead : asked) {
            EDGES.marked(ahead.replace("#", "abcdef^g"), 1);
            EDGES.marked(ahead.replace("#", "abcdef^ghijkl 1 1;"), 1);
            EDGES.marked(ahead.replace("#", "traits^s"), 1);
            EDGES.marked(ahead.replace("#", "zzzzzz^at 1;"), 1);
        }
        EDGES.marked(BASE + "place abcdef;place abcdef^g;", 1);
        EDGES.marked(BASE + "place abcdef;road abcdef^x y 1;", 1);
        EDGES.marked(BASE + "place abcdef;place ^abcdef;", 3);
    }

    private static void fifthDigits() {
        EDGES.says("where a number is asked, a 5th digit at itself;");
        String[] asked = {"traits a #", "traits a 1 #", BASE + "person q #", BASE + "shade q fee #", BASE + "shade q fee 1 #",
            BASE + "shade q fee 1 1 fakes #", BASE + "road x y #", BASE + "seen p at x hour #",
            BASE + "seen p at x hour 1 light #", BASE + "price #", BASE + "price 1*(#", BASE + "price min(1,#",
            BASE + "price 1 when #", BASE + "price 1 when 1<#", BASE + "tithe #"};
        for (String ahead : asked) {
            EDGES.marked(ahead.replace("#", "0000^1"), 1);
            EDGES.marked(ahead.replace("#", "0001^11111 x"), 1);
            EDGES.marked(ahead.replace("#", "9999^9"), 1);
            EDGES.marked(ahead.replace("#", "0001^"), 1);
        }
    }

    private static void seventhTrait() {
        EDGES.says("a 7th TRAIT at its ,;");
        String six = "traits a 1 1,b 1 1,c 1 1,d 1 1,e 1 1,f 1 1";
        EDGES.guild(new HiredShades(), six + ";", 1);
        EDGES.marked(six + "^,g 1 1;", 1);
        EDGES.marked(six + " \n^, g 1 1;", 1);
        EDGES.marked(six + "^,", 1);
        EDGES.marked(six + "^,a 101 1;", 1);
    }

    private static void textsThatEndTooSoon() {
        EDGES.says("at the text's length, if it ends too soon);");
        for (String[] state : STATES) {
            HiredShades x = new HiredShades();
            if (state[0].equals(BASE)) {
                EDGES.guild(x, BASE, 5);
                continue;
            }
            EDGES.faulty(x, state[0], 1, state[0].length());
            EDGES.faulty(x, state[0] + "\n ", 1, state[0].length() + 2);
            String tight = state[0].isEmpty() ? "" : state[0].substring(0, state[0].length() - 1);
            EDGES.faulty(x, tight, 1, tight.length());
        }
        String most = T + "tithe 1;".repeat(10) + " ".repeat(1600);
        EDGES.faulty(new HiredShades(), most.substring(0, 1599) + "+", 1, 1599);
        EDGES.faulty(new HiredShades(), (T + "tithe 1;".repeat(9) + "tithe 1" + " ".repeat(1600)).substring(0, 1600), 1, 1600);
    }

    private static void numbersThatCantBe() {
        EDGES.says("2 a number that can't be, at it;");
        String[][] asked = {{"traits a ", "0", "100"}, {"traits a 1 ", "0", "100"}, {BASE + "person q ", "0", "9"},
            {BASE + "shade q fee ", "1", "99"}, {BASE + "shade q fee 1 ", "0", "9"},
            {BASE + "shade q fee 1 1 fakes ", "0", "1"}, {BASE + "road x y ", "1", "9"},
            {BASE + "seen p at x hour ", "0", "99"}, {BASE + "seen p at x hour 1 light ", "0", "100"},
            {BASE + "tithe ", "0", "100"}};
        for (String[] row : asked) {
            int least = Integer.parseInt(row[1]);
            int most = Integer.parseInt(row[2]);
            EDGES.marked(row[0] + least + "^", 1);
            EDGES.marked(row[0] + most + "^", 1);
            EDGES.marked(row[0] + String.format("%04d", most) + "^", 1);
            EDGES.marked(row[0] + "^" + (most + 1), 2);
            EDGES.marked(row[0] + "\n^" + (most + 1) + ";", 2);
            EDGES.marked(row[0] + "^9999;", 2);
            if (least > 0) {
                EDGES.marked(row[0] + "^0;", 2);
                EDGES.marked(row[0] + "^0000;", 2);
            }
        }
    }

    private static void namesThatAreThereAlready() {
        EDGES.says("3 a NAME to be given that is there already,");
        EDGES.marked("traits a 1 1,^a", 3);
        for (String given : new String[] {"t", "p", "s", "x", "y"}) {
            EDGES.marked(BASE + "person ^" + given, 3);
            EDGES.marked(BASE + "shade ^" + given + " fee", 3);
            EDGES.marked(BASE + "place \n^" + given + ";", 3);
        }
        EDGES.marked(BASE + "place q;place ^q;", 3);
        EDGES.marked("traits a 1 1,b 1 1,c 1 1,d 1 1,e 1 1,f 1 1;place ^f;", 3);
    }

    private static void namesThatAreNoneOfWhatIsAsked() {
        EDGES.says("one that is none of what is asked,");
        for (String other : new String[] {"t", "p", "s", "q", "xx", "xy"}) {
            EDGES.marked(BASE + "road ^" + other, 3);
            EDGES.marked(BASE + "road x ^" + other + " 1;", 3);
            EDGES.marked(BASE + "seen p at ^" + other, 3);
        }
        for (String other : new String[] {"t", "x", "y", "s", "q", "pp"}) {
            EDGES.marked(BASE + "seen ^" + other, 3);
        }
        HiredShades x = Guilds.made(BASE);
        EDGES.faulty(x, T + "place z;road x z 1;", 3, 26);
    }

    private static void firstPlaceAgain() {
        EDGES.says("of road the first PLACE again, at it;");
        EDGES.marked(BASE + "road x ^x 1;", 3);
        EDGES.marked(BASE + "road y ^y", 3);
        EDGES.marked(BASE + "road y\n ^y 0;", 3);
        EDGES.guild(new HiredShades(), BASE + "road y x 1;", 6);
    }

    /** Some of ( [ not, and the TEST in them. */
    private static String opened(String order) {
        StringBuilder ahead = new StringBuilder();
        for (char sign : order.toCharArray()) {
            ahead.append(sign == 'n' ? " not " : String.valueOf(sign));
        }
        return ahead.toString();
    }

    private static void seventhThatIsOpen() {
        EDGES.says("4 the 7th ( [ not that is open at once");
        for (String six : new String[] {"nnnnnn", "[[[[[[", "((((((", "n[n[n[", "[n((((", "nn[[((", "[[[[[("}) {
            String ahead = T + "price 1 when" + opened(six);
            EDGES.marked(ahead + "^(", 4);
            EDGES.marked(ahead + " ^(1)))))))", 4);
            EDGES.marked(ahead + "max^(1,2)", 4);
            EDGES.marked(ahead + "min ^(", 4);
            EDGES.marked(ahead + "1^", 1);
            if (!six.contains("(")) {
                EDGES.marked(ahead + "^[", 4);
                EDGES.marked(ahead + " ^not all", 4);
                EDGES.marked(ahead + "1=^(2)", 4);
            }
        }
        EDGES.marked(T + "price((((((^(", 4);
        EDGES.marked(T + "price min(1,max(2,(((min(^", 1);
        EDGES.marked(T + "price min(1,max(2,((((min^(", 4);
        EDGES.marked(T + "price min((((((^(", 4);
        EDGES.marked(T + "price max(1,(((((^(", 4);
        EDGES.marked(T + "price((((((1))))))*((((((^(", 4);
        EDGES.marked(T + "price((((((min ^1))))))when all;", 1);
        EDGES.marked(T + "price((((((^[", 1);
        HiredShades x = new HiredShades();
        EDGES.guild(x, T + "price((((((1))))))when((((((1))))))=((((((1))))));", 2);
        EDGES.guild(x, T + "price 1 when not not not not not not all;", 2);
        EDGES.guild(x, T + "price 1 when[[[[[[all]]]]]];", 2);
        EDGES.guild(x, T + "price 1 when not[not[not(1)=(1)]];", 2);
        EDGES.marked(T + "price 1 when not[not[not(^(1))=(1)]];", 4);
    }

    private static void openUntilItEnds() {
        EDGES.says("(not until its FACT ends), at it;");
        String six = "not not not not not not ";
        HiredShades x = new HiredShades();
        EDGES.guild(x, T + "price 1 when " + six + "all and " + six + "all or " + six + "1=2;", 2);
        EDGES.guild(x, T + "price 1 when " + six + "all and((((((1))))))=1;", 2);
        EDGES.guild(x, T + "price 1 when " + six + "1=1 or[[[[[[all]]]]]];", 2);
        EDGES.guild(x, T + "price 1 when not[[[[[all]]]]]and[[[[[[all]]]]]];", 2);
        EDGES.guild(x, T + "price 1 when not[" + "not not not not all and not not not not all];", 2);
        EDGES.marked(T + "price 1 when not[" + "not not not not all and not not not not ^not all];", 4);
        EDGES.marked(T + "price 1 when " + six + "1=1+2*^(3);", 4);
        EDGES.marked(T + "price 1 when not(((((^(", 4);
        EDGES.marked(T + "price 1 when not(((((1)))))=((((( ^(", 4);
        EDGES.guild(x, T + "price 1 when not(((((1)))))=(((((1)))));", 2);
        EDGES.guild(x, T + "price 1 when[[[[[all]]]]and all]and[[[[[[all]]]]]];", 2);
        EDGES.marked(T + "price 1 when[[[[[all]]]]and[[[[[^[all", 4);
        EDGES.guild(x, T + "price min((((((1))))),(((((1))))))*((((((1))))))when all;", 2);
        EDGES.marked(T + "price min((((((1))))),(((((^(", 4);
    }

    private static void tooMany(String ahead, String most, String again) {
        EDGES.marked(ahead + most + "^" + again, 5);
        EDGES.marked(ahead + most + "\n ^" + again + " at 9999;", 5);
        EDGES.marked(ahead + most + "^" + again + "x", 1);
    }

    private static void oneTooManyOfAKind() {
        EDGES.says("5 one too many of a kind,");
        StringBuilder persons = new StringBuilder();
        StringBuilder places = new StringBuilder();
        StringBuilder shades = new StringBuilder();
        for (char name = 'a'; name <= 'h'; name++) {
            persons.append("person p").append(name).append(" 1;");
            places.append("place q").append(name).append(";");
            shades.append(name <= 'e' ? "shade s" + name + " fee 1 1 fakes 1;" : "");
        }
        tooMany(T, persons.toString(), "person");
        tooMany(T, places.toString(), "place");
        tooMany(T, shades.toString(), "shade");
        tooMany(BASE, "road x y 1;".repeat(20), "road");
        tooMany(BASE, "seen p at x hour 1 light 1 dry;".repeat(24), "seen");
        tooMany(T, "price 1 when all;".repeat(6), "price");
    }

    private static void ninetyFirstStatement() {
        EDGES.says("a 91st STATEMENT (whatever stands there), at its first byte.");
        String ninety = T + "tithe 1;".repeat(89);
        EDGES.guild(new HiredShades(), ninety + " \n", 90);
        for (String token : TOKENS) {
            EDGES.marked(ninety + "^" + token, 5);
            EDGES.marked(ninety + " \n^" + token + ";", 5);
        }
        EDGES.marked(T + "tithe 1;".repeat(88) + "^;", 1);
        EDGES.marked(T + "tithe 1;".repeat(88) + "tithe ^101;tithe 1;", 2);
    }
}
