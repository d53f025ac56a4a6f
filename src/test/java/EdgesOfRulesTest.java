/** The edges of Terms I: what TESTS and SUMS are made of, what they give, and blanks. */
public final class EdgesOfRulesTest {
    private static final Edges EDGES = new Edges("EdgesOfRulesTest");
    private static final String T = "traits t 1 1;";
    /** One SHADE and one SIGHTING: fee 7, hour 9, light 60, wet 1, unlike 1, pass 880. */
    private static final String ONE = "traits t 50 20;person p 1;shade s fee 7 2 fakes 0;place x;"
            + "seen p at x hour 9 light 60 rain;";

    public static void main(String[] args) {
        orAndAnd();
        facts();
        sumsAndProducts();
        parts();
        whatIsKnown();
        fromTheLeft();
        quotients();
        boundOfSums();
        boundOfDifferences();
        boundOfProducts();
        blanks();
        blanksThatAreNeeded();
        EDGES.end();
    }

    private static void holds(String test, boolean want) {
        HiredShades x = Guilds.made(ONE + "price 55 when " + test + ";");
        EDGES.due("a RULE when " + test, x.price(0, 0), want ? 55 : 7);
    }

    /** That a SUM gives what another one gives. */
    private static void gives(String sum, String want) {
        String text = ONE + "price 1 when " + sum + "<" + want + ";price 2 when " + sum + "=" + want + ";price 3 when "
                + sum + ">" + want + ";";
        EDGES.due(sum + " is " + want, Guilds.made(text).price(0, 0), 2);
    }

    private static void orAndAnd() {
        EDGES.says("TEST: BOTH { or BOTH }. BOTH: FACT { and FACT }.");
        String[] facts = {"1=2", "all"};
        for (int bits = 0; bits < 8; bits++) {
            boolean a = (bits & 1) != 0;
            boolean b = (bits & 2) != 0;
            boolean c = (bits & 4) != 0;
            String[] of = {facts[bits & 1], facts[bits >> 1 & 1], facts[bits >> 2 & 1]};
            holds(of[0], a);
            holds(of[0] + " or " + of[1], a || b);
            holds(of[0] + " and " + of[1], a && b);
            holds(of[0] + " or " + of[1] + " or " + of[2], a || b || c);
            holds(of[0] + " and " + of[1] + " and " + of[2], a && b && c);
            holds(of[0] + " or " + of[1] + " and " + of[2], a || (b && c));
            holds(of[0] + " and " + of[1] + " or " + of[2], (a && b) || c);
            holds("[" + of[0] + " or " + of[1] + "] and " + of[2], (a || b) && c);
        }
        EDGES.marked(ONE + "price 1 when ^or all;", 1);
        EDGES.marked(ONE + "price 1 when all or ^;", 1);
        EDGES.marked(ONE + "price 1 when all and ^;", 1);
    }

    private static void facts() {
        EDGES.says("FACT: not FACT; [ TEST ] ; all; SUM SIGN SUM, SIGN < or > or = .");
        holds("all", true);
        holds("not all", false);
        holds("not not all", true);
        holds("not not not all", false);
        holds("[all]", true);
        holds("not [all]", false);
        holds("not 1=2", true);
        holds("not 1=2 and 1=2", false);
        holds("not 1=2 or all", true);
        holds("not [1=2 or all]", false);
        for (int first = 4; first <= 6; first++) {
            holds(first + "<5", first < 5);
            holds(first + ">5", first > 5);
            holds(first + "=5", first == 5);
            holds("not " + first + "<5", first >= 5);
            holds("not " + first + ">5", first <= 5);
            holds("not " + first + "=5", first != 5);
            holds("not not " + first + "=5", first == 5);
            holds("all and not " + first + "=5", first != 5);
            holds("1=2 or not " + first + "=5", first != 5);
        }
        holds("1+2*3=7", true);
        holds("7=1+2*3", true);
        EDGES.marked(ONE + "price 1 when [^];", 1);
        EDGES.marked(ONE + "price 1 when 1<^=1;", 1);
        EDGES.marked(ONE + "price 1 when 1^;", 1);
    }

    private static void sumsAndProducts() {
        EDGES.says("SUM: PRODUCT { + or - PRODUCT }. PRODUCT: PART { * or / PART }.");
        gives("2+3*4", "14");
        gives("2*3+4", "10");
        gives("20-3*4", "8");
        gives("20-6/4", "19");
        gives("9/4+1", "3");
        gives("5", "5");
        EDGES.marked(ONE + "price ^+1 when all;", 1);
        EDGES.marked(ONE + "price ^-1 when all;", 1);
        EDGES.marked(ONE + "price ^*1 when all;", 1);
        EDGES.marked(ONE + "price 1+ ^when all;", 1);
        EDGES.marked(ONE + "price 1*^/1 when all;", 1);
    }

    private static void parts() {
        EDGES.says("PART: N (1 to 4 digits); fee; hour; light; wet; unlike; pass; ( SUM ) ; min ( SUM , SUM ) ;"
                + " max ( SUM , SUM ) .");
        gives("0", "5-5");
        gives("0000", "0");
        gives("0001", "1");
        gives("9999", "100*100-1");
        EDGES.marked(ONE + "price 0000^0 when all;", 1);
        EDGES.marked(ONE + "price 9999^9 when all;", 1);
        EDGES.marked(ONE + "price 1 when 1=1000^0;", 1);
        gives("(5)", "5");
        gives("(2+3)*(4-1)", "15");
        gives("min(2,3)", "2");
        gives("min(3,2)", "2");
        gives("min(2,2)", "2");
        gives("max(2,3)", "3");
        gives("max(3,2)", "3");
        gives("max(3,3)", "3");
        gives("min(1-2,2-4)", "0-2");
        gives("max(1-2,2-4)", "0-1");
        gives("min(1+2*3,9-1)", "7");
        gives("max(min(1,2),min(4,3))", "3");
        EDGES.marked(ONE + "price (^) when all;", 1);
        EDGES.marked(ONE + "price min(^,1) when all;", 1);
        EDGES.marked(ONE + "price min(1^) when all;", 1);
        EDGES.marked(ONE + "price max(1,^) when all;", 1);
        EDGES.marked(ONE + "price max(1,1^,1) when all;", 1);
        EDGES.marked(ONE + "price (1^,1) when all;", 1);
    }

    private static void whatIsKnown() {
        EDGES.says("(Of a SHADE for a SIGHTING: its fee; the HOUR, the light, 1 in rain else 0; in how many TRAITS its own"
                + " are not the PERSON's; PASS.)");
        String text = "traits a 0 0,b 0 0,c 0 0,d 0 0,e 0 0,f 100 100;person p 1 1 1 1 1 1;person q 2 2 2 2 2 2;place x;"
                + "shade s fee 1 2 2 2 2 2 2 fakes 1 0 1 0 1 0;shade v fee 99 1 2 1 1 1 1 fakes 0 1 0 0 0 0;"
                + "seen p at x hour 0 light 0 dry;seen q at x hour 99 light 100 rain;";
        known(text, "fee", new int[][] {{1, 1}, {99, 99}});
        known(text, "hour", new int[][] {{0, 99}, {0, 99}});
        known(text, "light", new int[][] {{0, 100}, {0, 100}});
        known(text, "wet", new int[][] {{0, 1}, {0, 1}});
        known(text, "unlike", new int[][] {{6, 0}, {1, 5}});
        known(text, "min(pass,999)", new int[][] {{999, 999}, {999, 0}});
        HiredShades x = Guilds.made(text + "price 3 when pass=1000;");
        EDGES.due("PASS 1000", x.price(0, 0), 3);
    }

    private static void known(String text, String part, int[][] want) {
        HiredShades x = Guilds.made(text + "price " + part + " when all;");
        for (int shade = 0; shade < 2; shade++) {
            for (int sighting = 0; sighting < 2; sighting++) {
                EDGES.due(part + " of " + shade + ", " + sighting, x.price(shade, sighting), want[shade][sighting]);
            }
        }
    }

    private static void fromTheLeft() {
        EDGES.says("All from the left on;");
        gives("10-3-2", "5");
        gives("10-3+2", "9");
        gives("100/7/2", "7");
        gives("7/2*2", "6");
        gives("2*7/2", "7");
        gives("100/5*4", "80");
    }

    private static void quotients() {
        EDGES.says("/ gives the greatest whole number not above, by 0 it gives 0;");
        gives("7/2", "3");
        gives("8/2", "4");
        gives("(0-7)/2", "0-4");
        gives("(0-8)/2", "0-4");
        gives("7/(0-2)", "0-4");
        gives("8/(0-2)", "0-4");
        gives("(0-7)/(0-2)", "3");
        gives("1/9999", "0");
        gives("(0-1)/9999", "0-1");
        gives("0/7", "0");
        gives("0/(0-7)", "0");
        gives("7/0", "0");
        gives("(0-7)/0", "0");
        gives("0/0", "0");
        gives("5+7/(2-2)*3", "5");
    }

    private static void boundOfSums() {
        EDGES.says("each sum,");
        gives("9999*100+99", "1000*1000-1");
        gives("9999*100+100", "1000*1000");
        gives("9999*100+101", "1000*1000");
        gives("9999*100+9999", "1000*1000");
        gives("1000*1000+1000*1000", "1000*1000");
        gives("9999*100+9999-100*100", "990*1000");
        gives("(0-9999*100)+(0-99)", "1-1000*1000");
        gives("(0-9999*100)+(0-100)", "0-1000*1000");
        gives("(0-9999*100)+(0-101)", "0-1000*1000");
        gives("(0-9999*100)+(0-9999)+100*100", "0-990*1000");
    }

    private static void boundOfDifferences() {
        EDGES.says("difference,");
        gives("9999*100-(0-99)", "1000*1000-1");
        gives("9999*100-(0-100)", "1000*1000");
        gives("9999*100-(0-101)", "1000*1000");
        gives("9999*100-(0-9999)-100*100", "990*1000");
        gives("0-9999*100-99", "1-1000*1000");
        gives("0-9999*100-100", "0-1000*1000");
        gives("0-9999*100-101", "0-1000*1000");
        gives("0-9999*100-9999+100*100", "0-990*1000");
        gives("0-1000*1000-1000*1000", "0-1000*1000");
    }

    private static void boundOfProducts() {
        EDGES.says("product above 10 to the 6 is that, below -10 to the 6 likewise.");
        gives("1000*1000-1", "999*1001");
        gives("1000*1000/1000", "1000");
        gives("1000*1001", "1000*1000");
        gives("1001*1001/1001", "999");
        gives("9999*9999", "1000*1000");
        gives("9999*9999*9999", "1000*1000");
        gives("1000*1000*(1000*1000)", "1000*1000");
        gives("1000*(0-1000)", "0-1000*1000");
        gives("(0-1000)*1000/1000", "0-1000");
        gives("(0-1001)*1000", "0-1000*1000");
        gives("9999*(0-9999)", "0-1000*1000");
        gives("(0-9999)*(0-9999)", "1000*1000");
        gives("1000*1000*(0-1000*1000)", "0-1000*1000");
        gives("9999*101/10", "100*1000");
        gives("9999*100/10", "9999*10");
    }

    private static void blanks() {
        EDGES.says("Blanks (10, 32) are where one likes");
        String text = "traits coat 50 20 , gait 10 80 ; person ann 1 2 ; shade sam fee 5 1 9 fakes 0 0 ; place mill ; "
                + "place inn ; road mill inn 2 ; seen ann at mill hour 5 light 100 dry ; price min ( fee , 2 ) * ( 3 + 1 ) "
                + "when not [ all and 1 < 2 or 2 > 1 ] or wet = 0 ; tithe 10 ;";
        String tight = text.replaceAll(" ?([;,()\\[\\]<>=*+]) ?", "$1");
        for (String told : new String[] {text, tight, text.replace(' ', '\n'), text.replace(" ", " \n\n "),
            "\n " + text + " \n", tight + "\n", " " + tight}) {
            HiredShades x = new HiredShades();
            EDGES.guild(x, told, 9);
            EDGES.due("its PRICE", x.price(0, 0), 8);
        }
        for (int other : new int[] {0, 9, 11, 12, 13, 31, 33, 127, 128, 138, 160, 255}) {
            String sign = String.valueOf((char) other);
            EDGES.marked("^" + sign + "traits a 1 1;", 1);
            EDGES.marked("traits^" + sign + "a 1 1;", 1);
            EDGES.marked("traits a ^" + sign + "1 1;", 1);
            EDGES.marked("traits a 1 1^" + sign + ";", 1);
            EDGES.marked("traits a 1 1;^" + sign, 1);
        }
    }

    private static void blanksThatAreNeeded() {
        EDGES.says("(words and numbers side by side need one).");
        String[] glued = {
            "traits^1", "traits a^1 1;", "traits a 1 1,b^1 1;", T + "person p^1;", T + "tithe^1;", T + "shade s fee^1 1 fakes 1;",
            T + "shade s fee 1 1^fakes 1;", T + "shade s fee 1 1 fakes^1;", T + "place x;place y;road x y^1;",
            ONE + "seen p at x hour^1 light 1 dry;", ONE + "seen p at x hour 1^light 1 dry;",
            ONE + "seen p at x hour 1 light^1 dry;", ONE + "seen p at x hour 1 light 1^dry;",
            ONE + "seen p at x hour 1 light 1^rain;", T + "price^1 when all;", T + "price 1^when all;",
            T + "price 1 when^1=1;", T + "price 1 when not^1=1;", T + "price 1 when 1=1^and all;",
            T + "price 1 when 1=1^or all;", T + "price 1 when all or^1=1;", T + "price 1 when all and^1=1;"
        };
        for (String text : glued) {
            EDGES.marked(text, 1);
            for (String blank : new String[] {" ", "\n"}) {
                String apart = text.replace("^", blank);
                HiredShades x = new HiredShades();
                Guilds.tell(x, apart);
                boolean isPlaced = x.fault(0) == 1 && x.fault(1) <= text.indexOf('^') + 1;
                EDGES.due("with a blank it goes on: " + apart, isPlaced, text.equals("traits^1"));
            }
        }
        EDGES.marked("^traitsa 1 1;", 1);
        EDGES.marked(T + "^personp 1;", 1);
        EDGES.marked(T + "shade s ^feefakes 1 1;", 1);
        EDGES.marked(ONE + "seen p ^atx hour 1 light 1 dry;", 1);
        EDGES.marked(T + "price 1 ^whenall;", 1);
        EDGES.marked(T + "price 1 when ^notall;", 1);
        EDGES.marked(T + "price 1 when all ^orall;", 1);
        EDGES.guild(new HiredShades(), T + "price(1)when[all]or(1)<2 and[all];tithe 1;", 3);
        EDGES.guild(new HiredShades(), T + "price min(1,2)when not(1)<fee*(2)and all;", 2);
    }
}
