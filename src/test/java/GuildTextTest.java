/** Promises 4 and 5: guild and fault, with the text's grammar and its FAULTS. */
public final class GuildTextTest {
    private static final Check CHECK = new Check("GuildTextTest");
    private static final String T = "traits t 1 1;";
    /** Ahead of a RULE that is to be tried on one SHADE and one SIGHTING. */
    private static final String ONE = "traits t 50 20;person p 1;shade s fee 7 2 fakes 0;place x;"
            + "seen p at x hour 9 light 60 rain;";

    public static void main(String[] args) {
        takesTexts();
        faultsStay();
        wordsThatDontGoOn();
        wordsAndNumbersSideBySide();
        namesAndNumbersTooLong();
        textsThatEndTooSoon();
        numbersThatCantBe();
        namesThatCantBe();
        tooMuchOpen();
        tooManyOfAKind();
        tooManyStatements();
        rulesReckon();
        rulesHold();
        CHECK.end();
    }

    private static void takesTexts() {
        HiredShades x = new HiredShades();
        CHECK.due("fault(0) ahead of any", x.fault(0), 0);
        CHECK.due("fault(1) ahead of any", x.fault(1), -1);
        CHECK.due("fault(2)", x.fault(2), -1);
        CHECK.due("fault(-1)", x.fault(-1), -1);
        CHECK.guild(x, "traits a 0 100;", 1);
        CHECK.guild(x, "\n\n traits\na\n0 100 , b 1 1 ; \n", 1);
        CHECK.guild(x, "traits abcdef 000 0100;place unlik;place unlika;", 3);
        CHECK.guild(x, Guilds.SMALL, 17);
        CHECK.due("the tape is gone", x.end(1), false);
        CHECK.guild(x, T + "tithe 100;tithe 0;tithe 33;", 4);
        CHECK.due("the last tithe counts", x.has(6), 33);
        CHECK.guild(x, T, 1);
        CHECK.due("no tithe", x.has(6), 0);
        CHECK.guild(x, T + "price(fee)+min(1,2)*max(3,(4))when not[all]or 1<2 and(2)>(1)and not 3=3;", 2);
    }

    private static void faultsStay() {
        HiredShades x = Guilds.made(Guilds.SMALL);
        x.seed(5);
        x.hire(0, 1);
        x.image();
        CHECK.faulty(x, "traits a 1 1;person a", 3, 20);
        CHECK.due("the tape is gone with a FAULT, too", x.end(1), false);
        CHECK.due("TRAITS stay", x.has(0), 2);
        CHECK.due("PERSONS stay", x.has(1), 2);
        CHECK.due("HIRED stay", x.seen(0, 5), 1);
        CHECK.due("acts stay", x.has(8), 1);
        CHECK.due("the image stays", x.octet(0), 2);
        CHECK.due("days stay", x.days(10, 0), daysOf(Guilds.SMALL, 5));
        CHECK.due("hire again", x.hire(0, -1), true);
        CHECK.due("hire again", x.hire(0, 1), true);
        x.seed(5);
        CHECK.guild(x, Guilds.SMALL, 17);
        CHECK.due("nobody is HIRED", x.has(7), 0);
        CHECK.due("nothing can be undone", x.has(8), 0);
        CHECK.due("undo()", x.undo(), false);
        CHECK.due("the image stays", x.octet(0), 2);
        x.hire(0, 1);
        CHECK.due("the seed stays", x.days(10, 0), daysOf(Guilds.SMALL, 5));
    }

    private static int daysOf(String text, int seed) {
        HiredShades x = Guilds.made(text);
        x.seed(seed);
        x.hire(0, 1);
        return x.days(10, 0);
    }

    private static void wordsThatDontGoOn() {
        CHECK.marked("^", 1);
        CHECK.marked("  \n^", 1);
        CHECK.marked("^;", 1);
        CHECK.marked("^x;", 1);
        CHECK.marked("^traitsx a 1 1;", 1);
        CHECK.marked("^trait a 1 1;", 1);
        CHECK.marked(" ^person p 1;", 1);
        CHECK.marked("^tithe 5;", 1);
        CHECK.marked("traits ^5", 1);
        CHECK.marked("traits ^at 1 1;", 1);
        CHECK.marked("traits ^unlike 1 1;", 1);
        CHECK.marked("traits ^A 1 1;", 1);
        CHECK.marked("traits a^B 1 1;", 1);
        CHECK.marked("traits a 1^\t1;", 1);
        CHECK.marked("traits a 1 ^;", 1);
        CHECK.marked("traits a 1 1 ^1;", 1);
        CHECK.marked("traits a 1 1,^;", 1);
        CHECK.marked("traits a 1 1,b 1 1,c 1 1,d 1 1,e 1 1,f 1 1^,g 1 1;", 1);
        CHECK.marked("traits a 1 1^\u00e4;", 1);
        CHECK.marked(T + "^traits u 1 1;", 1);
        CHECK.marked(T + "^;", 1);
        CHECK.marked(T + "^t;", 1);
        CHECK.marked(T + "^fee;", 1);
        CHECK.marked(T + "^5;", 1);
        CHECK.marked(T + "^personx p 1;", 1);
        CHECK.marked(T + "person p ^;", 1);
        CHECK.marked(T + "person p 1 ^1;", 1);
        CHECK.marked(T + "person ^1;", 1);
        CHECK.marked(T + "shade s ^1;", 1);
        CHECK.marked(T + "shade s fee ^fakes;", 1);
        CHECK.marked(T + "shade s fee 1 1 ^1 fakes 1;", 1);
        CHECK.marked(T + "shade s fee 1 1 fakes ^;", 1);
        CHECK.marked(T + "place p ^1;", 1);
        CHECK.marked(T + "place p;place q;road p ^1;", 1);
        CHECK.marked(T + "place p;place q;road p q ^;", 1);
        CHECK.marked(ONE + "seen p ^x;", 1);
        CHECK.marked(ONE + "seen p at x ^light 5 hour 5 dry;", 1);
        CHECK.marked(ONE + "seen p at x hour 5 ^dry;", 1);
        CHECK.marked(ONE + "seen p at x hour 5 light 5 ^wet;", 1);
        CHECK.marked(ONE + "seen p at x hour 5 light 5^;", 1);
        CHECK.marked(T + "price ^when all;", 1);
        CHECK.marked(T + "price 1 ^all;", 1);
        CHECK.marked(T + "price 1 ^;", 1);
        CHECK.marked(T + "price ^t when all;", 1);
        CHECK.marked(T + "price ^-1 when all;", 1);
        CHECK.marked(T + "price ^[all] when all;", 1);
        CHECK.marked(T + "price min ^1;", 1);
        CHECK.marked(T + "price min(1^) when all;", 1);
        CHECK.marked(T + "price min(1,2^,3) when all;", 1);
        CHECK.marked(T + "price (1^, when all;", 1);
        CHECK.marked(T + "price (^) when all;", 1);
        CHECK.marked(T + "price 1+^+1 when all;", 1);
        CHECK.marked(T + "price 1 when ^;", 1);
        CHECK.marked(T + "price 1 when 1^;", 1);
        CHECK.marked(T + "price 1 when 1 ^and 2;", 1);
        CHECK.marked(T + "price 1 when 1<2^<3;", 1);
        CHECK.marked(T + "price 1 when all ^< 3;", 1);
        CHECK.marked(T + "price 1 when (1^<2", 1);
        CHECK.marked(T + "price 1 when [all^;", 1);
        CHECK.marked(T + "price 1 when all^];", 1);
        CHECK.marked(T + "price 1 when all ^not all;", 1);
        CHECK.marked(T + "price 1 when all or ^or all;", 1);
        CHECK.marked(T + "price 1 when not ^;", 1);
        CHECK.marked(T + "price 1 when [1^]", 1);
        CHECK.marked(T + "tithe ^;", 1);
        CHECK.marked(T + "tithe 1^,", 1);
    }

    private static void wordsAndNumbersSideBySide() {
        CHECK.marked("traits^1", 1);
        CHECK.marked("traits a^1 1;", 1);
        CHECK.marked("traits a 1 1^b", 1);
        CHECK.marked(T + "person p^1;", 1);
        CHECK.marked(T + "tithe^101;", 1);
        CHECK.marked(T + "shade s fee^1 1 fakes 1;", 1);
        CHECK.marked(T + "shade s fee 1 1^fakes 1;", 1);
        CHECK.marked(T + "price 1^when all;", 1);
        CHECK.marked(T + "price 1 when 1<2^or all;", 1);
        CHECK.marked(T + "price 1 when 1<2^and all;", 1);
        CHECK.marked(T + "price min^2(1,2) when all;", 1);
        CHECK.marked(T + "price fee^2 when all;", 1);
        CHECK.marked(T + "price 1 when not^1<2;", 1);
        CHECK.guild(new HiredShades(), T + "price 1 when not(1)<2 or all;", 2);
        CHECK.guild(new HiredShades(), T + "price(1)when[all]or[all]and(1)<2;", 2);
    }

    private static void namesAndNumbersTooLong() {
        CHECK.marked("traits abcdef^g 1 1;", 1);
        CHECK.marked("traits abcdef^ghi 1 1;", 1);
        CHECK.marked("traits person^s 1 1;", 1);
        CHECK.marked(T + "place abcdef;place abcdef^g;", 1);
        CHECK.marked(T + "place p;road abcdef^g p;", 1);
        CHECK.marked("traits a 0000^0 1;", 1);
        CHECK.marked("traits a 1234^5 1;", 1);
        CHECK.marked(T + "price 1000^0 when all;", 1);
        CHECK.marked(T + "tithe 1111^11;", 1);
        CHECK.marked("traits a 1 1 ^12345;", 1);
    }

    private static void textsThatEndTooSoon() {
        String text = ONE + "place y;road x y 3;price min(fee,(2))when[all];tithe 5;";
        int statement = 0;
        HiredShades x = new HiredShades();
        for (int n = 0; n < text.length(); n++) {
            char next = text.charAt(n);
            boolean isAtEndOfOne = n > 0 && text.charAt(n - 1) == ';';
            statement += isAtEndOfOne ? 1 : 0;
            boolean isInside = n > 0 && Character.isLetter(next) && Character.isLetter(text.charAt(n - 1));
            if (isAtEndOfOne) {
                CHECK.guild(x, text.substring(0, n) + "\n ", statement);
            } else if (!isInside) {
                CHECK.faulty(x, text.substring(0, n), 1, n);
                CHECK.faulty(x, text.substring(0, n) + " \n", 1, n + 2);
            }
        }
        CHECK.marked("^trait", 1);
        CHECK.marked(T + "^pers", 1);
        CHECK.marked("traits a^", 1);
    }

    private static void numbersThatCantBe() {
        CHECK.marked("traits a ^101 1;", 2);
        CHECK.marked("traits a 1 ^101;", 2);
        CHECK.marked("traits a 1 ^9999x;", 2);
        CHECK.marked(T + "person p ^10;", 2);
        CHECK.marked(T + "shade s fee ^0 1 fakes 1;", 2);
        CHECK.marked(T + "shade s fee ^100 1 fakes 1;", 2);
        CHECK.marked(T + "shade s fee 99 ^10 fakes 1;", 2);
        CHECK.marked(T + "shade s fee 1 9 fakes ^2;", 2);
        CHECK.marked(T + "place p;place q;road p q ^0;", 2);
        CHECK.marked(T + "place p;place q;road p q ^10;", 2);
        CHECK.marked(ONE + "seen p at x hour ^100 light 0 dry;", 2);
        CHECK.marked(ONE + "seen p at x hour 99 light ^101 dry;", 2);
        CHECK.marked(T + "tithe ^101;", 2);
        CHECK.guild(new HiredShades(), ONE + "seen p at x hour 99 light 100 dry;tithe 100;", 7);
    }

    private static void namesThatCantBe() {
        CHECK.marked("traits a 1 1,^a 1 1;", 3);
        CHECK.marked(T + "person ^t 1;", 3);
        CHECK.marked(T + "shade ^t fee", 3);
        CHECK.marked(T + "place ^t", 3);
        CHECK.marked(T + "person p 1;person ^p 1;", 3);
        CHECK.marked(T + "person p 1;place ^p;", 3);
        CHECK.marked(T + "shade s fee 1 1 fakes 1;person ^s 1;", 3);
        CHECK.marked(T + "place x;shade ^x fee 1 1 fakes 1;", 3);
        CHECK.marked(T + "place x;place ^x;", 3);
        CHECK.marked(T + "place x;road ^y x 1;", 3);
        CHECK.marked(T + "place x;road x ^y 1;", 3);
        CHECK.marked(T + "place x;road ^t x 1;", 3);
        CHECK.marked(T + "place x;road x ^x 1;", 3);
        CHECK.marked(ONE + "seen ^x at p", 3);
        CHECK.marked(ONE + "seen ^s at x", 3);
        CHECK.marked(ONE + "seen p at ^p", 3);
        CHECK.marked(ONE + "seen p at ^t", 3);
        CHECK.marked(T + "person p 1;seen p at ^x hour 1 light 1 dry;place x;", 3);
        CHECK.marked(T + "place ^t1", 3);
    }

    private static void tooMuchOpen() {
        HiredShades x = new HiredShades();
        CHECK.guild(x, T + "price((((((1))))))when all;", 2);
        CHECK.marked(T + "price((((((^(1)))))))when all;", 4);
        CHECK.guild(x, T + "price((((((1))))))+((((((1))))))when[[[[[[all]]]]]]and[[[[[[all]]]]]];", 2);
        CHECK.marked(T + "price 1 when[[[[[[^[all]]]]]]];", 4);
        CHECK.guild(x, T + "price 1 when not not not not not not all or not not not not not not 1<2;", 2);
        CHECK.marked(T + "price 1 when not not not not not not ^not all;", 4);
        CHECK.marked(T + "price 1 when not not not not not not ^(1)<2;", 4);
        CHECK.marked(T + "price 1 when not not not not not not 1<^(2);", 4);
        CHECK.marked(T + "price 1 when not[not[not[^[all]]]];", 4);
        CHECK.guild(x, T + "price 1 when not[not[not[all]]]and not[not[not[all]]];", 2);
        CHECK.marked(T + "price 1 when not[((((^(1)))))=1];", 4);
        CHECK.guild(x, T + "price min(1,max(min(1,max(min(1,max(2,3)),4)),5))when all;", 2);
        CHECK.marked(T + "price min(1,max(min(1,max(min(1,max(2,min^(3,4))),4)),5))when all;", 4);
        CHECK.marked(T + "price((((((min^(1,2)))))))when all;", 4);
        CHECK.marked(T + "price((((((min ^1))))))when all;", 1);
        CHECK.marked(T + "price 1 when[[[[[[^[", 4);
        CHECK.marked(T + "price 1 when all or not not not not not not ^not all;", 4);
        CHECK.marked(T + "price 1 when all and not not not not not not ^not all;", 4);
        CHECK.marked(T + "price 1+((((((^(1)))))))when all;", 4);
        CHECK.marked(T + "price 1*((((((^(1)))))))when all;", 4);
        CHECK.marked(T + "price 1 when 1<((((((^(1)))))));", 4);
    }

    private static void tooManyOfAKind() {
        StringBuilder full = new StringBuilder(T);
        for (int n = 0; n < 8; n++) {
            full.append("person p").append((char) ('a' + n)).append(" 1;");
            full.append("place q").append((char) ('a' + n)).append(";");
        }
        for (int n = 0; n < 5; n++) {
            full.append("shade s").append((char) ('a' + n)).append(" fee 1 1 fakes 1;");
        }
        CHECK.guild(new HiredShades(), full.toString(), 22);
        CHECK.marked(full + " ^person", 5);
        CHECK.marked(full + "^person pa 1;", 5);
        CHECK.marked(full + "^shade x", 5);
        CHECK.marked(full + "^place", 5);
        CHECK.marked(full + "^places", 1);
        String roads = T + "place a;place b;" + "road a b 1;".repeat(20);
        CHECK.guild(new HiredShades(), roads, 23);
        CHECK.marked(roads + "^road a", 5);
        String rules = T + "price 1 when all;".repeat(6);
        CHECK.guild(new HiredShades(), rules, 7);
        CHECK.marked(rules + "^price 1 when all;", 5);
        String seen = T + "person p 1;place x;" + "seen p at x hour 1 light 1 dry;".repeat(24);
        CHECK.guild(new HiredShades(), seen, 27);
        CHECK.marked(seen + "^seen", 5);
    }

    private static void tooManyStatements() {
        String most = T + "tithe 1;".repeat(89);
        CHECK.guild(new HiredShades(), most, 90);
        CHECK.guild(new HiredShades(), most + " \n", 90);
        CHECK.marked(most + "^tithe 1;", 5);
        CHECK.marked(most + "\n ^;", 5);
        CHECK.marked(most + "^\u00ff", 5);
        CHECK.marked(most + "^tithe 101;", 5);
        CHECK.marked(T + "tithe 1;".repeat(88) + "^;", 1);
    }

    private static void rulesReckon() {
        price("fee", 7);
        price("hour", 9);
        price("light", 60);
        price("wet", 1);
        price("unlike", 1);
        price("pass", 880);
        price("0", 0);
        price("9999", 999);
        price("999", 999);
        price("1000", 999);
        price("1-2", 0);
        price("10-3-2", 5);
        price("2+3*4", 14);
        price("(2+3)*4", 20);
        price("100/7/2", 7);
        price("7/2*2", 6);
        price("2*7/2", 7);
        price("100-7/0", 100);
        price("100-0/7", 100);
        price("10+(0-7)/2", 6);
        price("10+7/(0-2)", 6);
        price("10+(0-7)/(0-2)", 13);
        price("10+(0-8)/2", 6);
        price("min(3,2)+max(5,4)*10", 52);
        price("min(3-9,2)+10", 4);
        price("9999*9999-9999*100", 100);
        price("9999*9999/1000", 999);
        price("9999*9999/9999", 100);
        price("(9999*9999+9999)/9999", 100);
        price("(9999*9999-1)/1000-900", 99);
        price("9999*9999-9999-9999*99", 100);
        price("5+(0-9999*9999-9999*9999)/1000+1000", 5);
        price("5+(0-9999)*9999/1000+1000", 5);
        price("9999*100-9999*100+9", 9);
        price("9999*101-9999*100", 100);
        price("(9999*101-9999*100-99)*7", 7);
        price("0012", 12);
    }

    private static void price(String sum, int want) {
        HiredShades x = Guilds.made(ONE + "price " + sum + " when all;");
        CHECK.due("price by " + sum, x.price(0, 0), want);
    }

    private static void rulesHold() {
        holds("all", true);
        holds("not all", false);
        holds("not not all", true);
        holds("1<2", true);
        holds("2<2", false);
        holds("2>2", false);
        holds("3>2", true);
        holds("2=2", true);
        holds("2=3", false);
        holds("0-3<0-2", true);
        holds("1<2 and 2<1", false);
        holds("1<2 or 2<1", true);
        holds("all or all and 1=2", true);
        holds("1=2 and all or all", true);
        holds("all and 1=2 or 1=2", false);
        holds("[all or all] and 1=2", false);
        holds("not 1=2 and 1=2", false);
        holds("not [1=2 and 1=2]", true);
        holds("not 1<2", false);
        holds("not 2>1", false);
        holds("not 2=2", false);
        holds("not not 2=2", true);
        holds("not all or all", true);
        holds("not [all or all]", false);
        holds("wet=1 and unlike=1 and light=60 and hour=9 and fee=7 and pass=880", true);
        HiredShades x = Guilds.made(ONE + "price 1 when wet=0;price 2 when wet=1;price 3 when all;");
        CHECK.due("the first RULE that holds", x.price(0, 0), 2);
    }

    private static void holds(String test, boolean want) {
        HiredShades x = Guilds.made(ONE + "price 55 when " + test + ";");
        CHECK.due("a RULE when " + test, x.price(0, 0), want ? 55 : 7);
    }
}
