import java.util.Arrays;
import java.util.HashSet;
import java.util.Set;

/** The sentences of Terms II that name an edge, with the promises 16 to 21. */
public final class EdgesOfTextsTest {
    private static final Edges EDGES = new Edges();

    private static final String LAW_WORDS = "x y height fence speed size ripe hunger day";
    private static final String ORDER_WORDS = "wheels fences day done came last";
    private static final String SIGNS = "; ( ) [ ] < > = + - * / % ! , : A Z ` { @ ^ _ . \" \t";
    private static final String OTHER_WORDS = "slows costs shuts eats send mend wait if or and not from toward by with times a z slow slowss nott iff";
    private static final String NUMBERS = "0 1 20 21 1000 1001 007";

    public static void main(String[] args) {
        lawsAtMost();
        textsOfAllLengths();
        tokens();
        whatGoesOnInLaws();
        whatGoesOnInOrders();
        clausesAtMost();
        ordersAtMost();
        numbersTo();
        partsAtMost();
        bracketsAtMost();
        faults();
        forces();
        wordsOfLaws();
        beyondABillion();
        dividing();
        holding();
        slowsAndCosts();
        asking();
        timesOfOrders();
        wordsOfOrders();
        ordersThatCanBe();
        ordersThatCannotBe();
        stopping();
        EDGES.end();
    }

    private static String many(String text, int times) {
        return Edges.many(text, times);
    }

    private static int faultOf(boolean law, String text) {
        CheesePost x = new CheesePost();
        Edges.put(x, text);
        int answer = law ? x.law() : x.orders();
        int fault = x.fault();
        EDGES.due("whether " + text + " is -6", answer == -6 ? 1 : 0, fault == -1 ? 0 : 1);
        EDGES.due("count(9) behind " + text, x.count(9), 0);
        EDGES.due("count(5) behind " + text, x.count(5), law && fault == -1 ? 1 : 0);
        return fault;
    }

    private static void lawFault(String text, int place) {
        EDGES.due("fault() of " + text, faultOf(true, text), place);
    }

    private static void ordersFault(String text, int place) {
        EDGES.due("fault() of " + text, faultOf(false, text), place);
    }

    private static void lawsAtMost() {
        EDGES.says("LAWS are TEXTS, 6 at most");
        Edges.Scene five = x -> {
            for (int i = 0; i < 5; i++) EDGES.due("law()", Edges.law(x, "slows " + (i + 2)), i);
        };
        EDGES.done(x -> {
            five.set(x);
            Edges.put(x, "slows 7");
        }, "law(), the sixth", CheesePost::law, 5);
        Edges.Scene six = x -> {
            x.wheel(1, 1);
            five.set(x);
            Edges.law(x, "slows 7");
        };
        for (int i = 0; i < 6; i++) {
            int law = i;
            EDGES.asked(x -> {
                six.set(x);
                x.force(law);
            }, "slowed by LAW " + i, x -> x.asks(1, 0, 1, 0), i + 2);
        }
        EDGES.says("-5 (ahead of reading it; the TAPE is empty then, too)");
        for (String text : new String[] {"slows 8", "nonsense", "", "   ", many(" ", 395) + "shuts"}) {
            EDGES.refusedText(six, text, CheesePost::law, -5);
            EDGES.asked(x -> {
                six.set(x);
                Edges.orders(x, "wait wait");
                Edges.law(x, text);
            }, "fault() of the latest that was read", CheesePost::fault, 5);
            EDGES.asked(x -> {
                six.set(x);
                Edges.law(x, text);
            }, "count(9)", x -> x.count(9), 0);
        }
        // A TEXT that is no LAW takes no room.
        EDGES.done(x -> {
            five.set(x);
            Edges.law(x, "slows");
            Edges.put(x, "shuts");
        }, "law() behind one refused", CheesePost::law, 5);
    }

    private static void textsOfAllLengths() {
        EDGES.says("on a TAPE of at most 400 bytes");
        lawFault("shuts" + many(" ", 395), -1);
        lawFault(many(" ", 395) + "shuts", -1);
        lawFault(many(" ", 395) + "slows", 400);
        lawFault(many(" ", 399) + "!", 399);
        lawFault(many("!", 400), 0);
        lawFault("slows " + many("0", 393) + "1", -1);
        lawFault("slows " + many("9", 394), 6);
        lawFault(many("z", 400), 0);
        lawFault("shuts if " + many("not ", 97) + "x=", 399);
        ordersFault("wait" + many(" ", 396), -1);
        ordersFault(many(" ", 396) + "wait", -1);
        ordersFault(many(" ", 396) + "mend", 400);
        EDGES.says("blanks alone: FAULT at the end");
        for (int n : new int[] {0, 1, 2, 19, 20, 21, 399, 400}) {
            lawFault(many(" ", n), n);
            ordersFault(many(" ", n), n);
        }
        EDGES.refusedText(Edges.PAIR, "", CheesePost::law, -6);
        EDGES.refusedText(Edges.PAIR, "  ", CheesePost::law, -6);
        EDGES.refusedText(Edges.PAIR, "", CheesePost::orders, -6);
        EDGES.refusedText(Edges.PAIR, "  ", CheesePost::orders, -6);
    }

    private static void tokens() {
        EDGES.says("TOKENS: longest rows of letters a .. z, of digits, single other bytes, any blanks (32) between.");
        lawFault("slows1", -1);
        lawFault("slows1if1=1", -1);
        lawFault("slowsx", 0);
        lawFault("slows xy", 6);
        lawFault("slows x y", 8);
        lawFault("sl ows 1", 0);
        lawFault("slows 10 00", 9);
        lawFault("slows 1 0", 8);
        lawFault("slows x1", 7);
        lawFault("slows 1x", 7);
        lawFault("slows1;slows1", -1);
        lawFault("eats if not1=1", -1);
        lawFault("eats if notx=1", 8);
        lawFault("eats if 1=1or1=1and1=1", -1);
        lawFault("eats if x=1orx=1", 11);
        lawFault("eats if 1==1", 10);
        lawFault("eats if 1<=1", 10);
        lawFault("slows   1   +   1   ;   eats   if   1   =   1   ", -1);
        ordersFault("wait times2if1=1", -1);
        ordersFault("waittimes 2", 0);
        ordersFault("send0from0toward0with1", -1);
        // Each byte but a blank, a ";" and letters (which make a longer row) is a TOKEN that can't go on there.
        for (int b = 0; b < 256; b++) {
            if (b == ' ') lawFault("shuts ", -1);
            else if (b == ';') lawFault("shuts;", 6);
            else if (b >= 'a' && b <= 'z') lawFault("shuts" + (char) b, 0);
            else lawFault("shuts" + (char) b, 5);
            if (b != ' ' && b != '1') lawFault((char) b + "shuts", 0);
        }
        // The letters' and the digits' edges: a row goes on to them and no further.
        lawFault("slows 0+1+2+3+4+5+6+7+8+9", -1);
        lawFault("slows 1:1", 7);
        lawFault("slows 1" + (char) ('0' + 128), 7);
        lawFault("shuts if" + (char) ('a' + 128) + "1=1", 8);
        lawFault("`shuts", 0);
        lawFault("SHUTS", 0);
        lawFault("shuts" + (char) 160, 5);
        lawFault("shuts" + (char) 0, 5);
    }

    /** Behind a beginning go on those TOKENS alone that are told; a beginning can end there or not. */
    private static void goesOn(boolean law, String beginning, boolean canEnd, String... told) {
        Set<String> can = new HashSet<>();
        for (String row : told) can.addAll(Arrays.asList(row.split(" ")));
        String all = String.join(" ", LAW_WORDS, ORDER_WORDS, OTHER_WORDS, NUMBERS, SIGNS);
        for (String token : all.split(" ")) {
            String text = beginning + " " + token;
            int fault = faultOf(law, text);
            if (!can.contains(token)) EDGES.due("fault() of " + text, fault, beginning.length() + 1);
            else EDGES.due("whether " + text + " goes on", fault == -1 || fault == text.length() ? 1 : 0, 1);
        }
        EDGES.due("fault() of " + beginning, faultOf(law, beginning), canEnd ? -1 : beginning.length());
        EDGES.due("fault() of " + beginning + " and blanks", faultOf(law, beginning + "   "), canEnd ? -1 : beginning.length() + 3);
    }

    private static void whatGoesOnInLaws() {
        EDGES.says("FAULT: the first TOKEN that can't go on there (the end's: the TEXT's length). LAWS");
        String part = LAW_WORDS + " 0 1 20 21 1000 007 [";
        String summing = "+ - * / %";
        String plain = part + " not (";
        String clause = "slows costs shuts eats";
        for (String s : new String[] {"", "shuts;", "slows 1;", "eats if 1=1;", " "}) goesOn(true, s, false, clause);
        for (String s : new String[] {"slows", "costs", "slows 1+", "slows 1-", "slows x*", "slows 1/", "costs 1%", "slows [",
            "slows [1+", "slows 1+[", "shuts if 1<", "shuts if 1>", "shuts if x=", "shuts if 1+", "shuts if [", "shuts if 1<2*"}) {
            goesOn(true, s, false, part);
        }
        for (String s : new String[] {"slows 1", "costs x", "slows day", "slows 1+2", "slows 1*x", "slows [1]", "costs [[1]+2]"}) {
            goesOn(true, s, true, summing, "if ;");
        }
        for (String s : new String[] {"slows [1", "slows [1+2", "slows [[1]", "shuts if [1", "shuts if 1<[2", "slows [1*x"}) {
            goesOn(true, s, false, summing, "]");
        }
        for (String s : new String[] {"shuts", "eats", "shuts;eats", "slows 1;shuts"}) goesOn(true, s, true, "if ;");
        for (String s : new String[] {"shuts if", "slows 1 if", "costs x if", "eats if", "eats if not", "eats if not not",
            "eats if (", "eats if ((", "eats if (not", "eats if 1<2 or", "eats if 1<2 and", "eats if (1<2 or", "eats if 1<2 or not"}) {
            goesOn(true, s, false, plain);
        }
        for (String s : new String[] {"shuts if 1", "slows 1 if x", "eats if [1]", "eats if (1", "eats if 1+2", "eats if not 1",
            "eats if 1<2 or 1", "eats if 1<2 and x"}) {
            goesOn(true, s, false, summing, "< > =");
        }
        for (String s : new String[] {"shuts if 1<2", "slows 1 if 1>x", "eats if not 1=1", "eats if 1<2 or 1<2", "eats if 1<[2]",
            "eats if 1<2 and 1+1=2"}) {
            goesOn(true, s, true, summing, "or and ;");
        }
        for (String s : new String[] {"shuts if (1<2", "eats if (1<2 or 1<2", "eats if ((1<2) and x=1"}) {
            goesOn(true, s, false, summing, "or and )");
        }
        for (String s : new String[] {"shuts if (1<2)", "eats if not (1<2)", "eats if 1<2 or ((x=1))"}) {
            goesOn(true, s, true, "or and ;");
        }
        goesOn(true, "shuts if ((1<2)", false, "or and )");
    }

    private static void whatGoesOnInOrders() {
        EDGES.says("FAULT: the first TOKEN that can't go on there (the end's: the TEXT's length). ORDERS");
        String part = ORDER_WORDS + " 0 1 20 21 1000 007 [";
        String summing = "+ - * / %";
        String plain = part + " not (";
        for (String s : new String[] {"", "wait;", "mend 1 by 1;", "wait times 2;", "wait if 1=1;"}) goesOn(false, s, false, "send mend wait");
        for (String s : new String[] {"send", "send 1 from", "send 1 from 1 toward", "send 1 from 1 toward 1 with", "mend", "mend 1 by",
            "mend [", "mend 1+", "mend 1 by 1%", "wait if 1<", "wait if ["}) {
            goesOn(false, s, false, part);
        }
        goesOn(false, "send 1", false, summing, "from");
        goesOn(false, "send [1]", false, summing, "from");
        goesOn(false, "send 1 from 1", false, summing, "toward");
        goesOn(false, "send 1 from 1 toward 1", false, summing, "with");
        goesOn(false, "send 1 from 1 toward 1 with 1", true, summing, "times if ;");
        goesOn(false, "mend 1", false, summing, "by");
        goesOn(false, "mend 1 by 1", true, summing, "times if ;");
        goesOn(false, "mend 1 by last", true, summing, "times if ;");
        goesOn(false, "mend [1", false, summing, "]");
        goesOn(false, "wait", true, "times if ;");
        for (String s : new String[] {"wait times", "mend 1 by 1 times", "send 1 from 1 toward 1 with 1 times"}) {
            goesOn(false, s, false, "1 20 007");
        }
        for (String s : new String[] {"wait times 2", "mend 1 by 1 times 20", "send 1 from 1 toward 1 with 1 times 1"}) {
            goesOn(false, s, true, "if ;");
        }
        for (String s : new String[] {"wait if", "wait times 2 if", "mend 1 by 1 if", "wait if not", "wait if (", "wait if 1<2 or",
            "wait if 1<2 and"}) {
            goesOn(false, s, false, plain);
        }
        goesOn(false, "wait if 1", false, summing, "< > =");
        goesOn(false, "wait if 1<2", true, summing, "or and ;");
        goesOn(false, "wait times 2 if 1<2", true, summing, "or and ;");
        goesOn(false, "wait if (1<2", false, summing, "or and )");
        goesOn(false, "wait if (1<2)", true, "or and ;");
    }

    private static void clausesAtMost() {
        EDGES.says("CLAUSE {\";\" CLAUSE}, 12 at most (FAULT at the 13th's first TOKEN)");
        for (int n = 1; n <= 12; n++) lawFault(many("eats;", n - 1) + "eats", -1);
        for (int n = 1; n <= 12; n++) lawFault(many("eats;", n), 5 * n);
        lawFault(many("eats;", 12) + "eats", 60);
        lawFault(many("eats;", 12) + "  eats", 62);
        lawFault(many("eats;", 12) + "slows 1 if 1", 60);
        lawFault(many("eats;", 12) + "nonsense", 60);
        lawFault(many("eats;", 12) + ";", 60);
        lawFault(many("eats;", 12) + "  ", 62);
        lawFault(many("eats;", 11) + "eats eats", 60);
        lawFault(many("slows 1 if x=1;", 11) + "slows 1 if x=1", -1);
        lawFault(many("slows 1 if x=1;", 12) + "shuts", 180);
        // The twelfth is asked like the first.
        EDGES.asked(x -> {
            x.wheel(1, 1);
            Edges.under(x, many("slows 3 if 1=2;", 11) + "slows 5");
        }, "slowed by the twelfth", x -> x.asks(1, 0, 1, 0), 5);
        EDGES.asked(x -> {
            x.wheel(1, 1);
            Edges.under(x, "slows 5" + many(";slows 3 if 1=2", 11));
        }, "slowed by the first", x -> x.asks(1, 0, 1, 0), 5);
    }

    private static void ordersAtMost() {
        EDGES.says("ORDER {\";\" ORDER}, 12 at most (FAULT likewise)");
        ordersFault(many("wait;", 11) + "wait", -1);
        ordersFault(many("wait;", 12) + "wait", 60);
        ordersFault(many("wait;", 12) + "  nonsense", 62);
        ordersFault(many("wait;", 12), 60);
        EDGES.done(x -> Edges.put(x, many("wait;", 11) + "wait"), "orders(), twelve", CheesePost::orders, 12);
        EDGES.refusedText(Edges.PAIR, many("wait;", 12) + "wait", CheesePost::orders, -6);
        EDGES.done(x -> Edges.put(x, many("mend 1 by 1 times 20;", 11) + "mend 1 by 1 times 20"), "orders(), the most that can be",
                CheesePost::orders, 240);
    }

    private static void numbersTo() {
        EDGES.says("NUMBER (to 1,000)");
        for (String n : new String[] {"0", "1", "999", "1000", "01000", "0000000000000000000000001"}) {
            lawFault("slows " + n, -1);
            ordersFault("mend " + n + " by " + n, -1);
            lawFault("eats if " + n + "=1", -1);
        }
        // Also such as would be small again, if they wrapped around.
        for (String n : new String[] {"1001", "1010", "2000", "9999", "65536", "65537", "2147483647", "2147483648", "2147483649",
            "4294967295", "4294967296", "4294967297", "18446744073709551616", "18446744073709551617", "10000000000000000000000"}) {
            lawFault("slows " + n, 6);
            lawFault("slows 1+" + n + "+1", 8);
            lawFault("eats if " + n + "=1", 8);
            ordersFault("mend " + n + " by 1", 5);
            ordersFault("wait times 2 if 1<" + n, 18);
        }
        EDGES.says("TIMES: a NUMBER 1 .. 20.");
        for (String n : new String[] {"1", "20", "01", "0000000020"}) ordersFault("wait times " + n, -1);
        for (String n : new String[] {"0", "00", "21", "100", "1000", "1001", "2147483648", "4294967297", "4294967316",
            "18446744073709551617", "[1]", "day", "-1", "+1"}) {
            ordersFault("wait times " + n, 11);
        }
    }

    private static void partsAtMost() {
        EDGES.says("50 PARTS that are NUMBERS and words (FAULT at the 51st)");
        lawFault("slows 1" + many("+1", 49), -1);
        lawFault("slows 1" + many("+1", 50), 106);
        lawFault("slows x" + many("+x", 49), -1);
        lawFault("slows x" + many("+x", 50), 106);
        lawFault("slows 1" + many("*x", 50), 106);
        lawFault("slows 1" + many("+1", 49) + "+", 106);
        lawFault("slows 1" + many("+1", 49) + "+[", 107);
        lawFault("slows 1" + many("+1", 49) + "+[1", 107);
        lawFault("slows 1" + many("+1", 49) + "+!", 106);
        lawFault("slows 1" + many("+1", 49) + ";slows 1", 112);
        lawFault("slows 1" + many("+1", 49) + ";shuts", -1);
        lawFault("slows 1" + many("+1", 47) + " if 1=1", -1);
        lawFault("slows 1" + many("+1", 48) + " if 1=1", 109);
        lawFault("slows 1" + many("+1", 49) + " if 1=1", 109);
        lawFault("slows 1" + many("+1", 49) + " if not (x", 114);
        lawFault(many("slows 1+1+1+1+1;", 10) + "shuts", -1);
        lawFault(many("slows 1+1+1+1+1;", 10) + "slows 1", 166);
        lawFault("slows [1]" + many("+[1]", 49), -1);
        lawFault("slows [1]" + many("+[1]", 50), 207);
        EDGES.asked(x -> {
            x.wheel(1, 1);
            Edges.under(x, "slows 1" + many("+1", 49));
        }, "slowed by fifty", x -> x.asks(1, 0, 1, 0), 50);
        // The next TEXT is counted anew, whether this one was read or not.
        for (int parts : new int[] {50, 51}) {
            Edges.Scene told = x -> {
                Edges.law(x, "slows 1" + many("+1", parts - 1));
                Edges.put(x, "slows 1" + many("+1", 49));
            };
            EDGES.done(told, "law() of fifty behind " + parts, CheesePost::law, parts == 50 ? 1 : 0);
        }
        EDGES.says("TIMES aside, NUMBERS and words count as PARTS.");
        ordersFault("mend 1" + many("+1", 48) + " by 1", -1);
        ordersFault("mend 1" + many("+1", 48) + " by 1 times 20", -1);
        ordersFault("mend 1" + many("+1", 49) + " by 1", 108);
        ordersFault("mend done" + many("+done", 48) + " by done", -1);
        ordersFault("mend 1" + many("+1", 48) + " by 1;wait times 2", -1);
        ordersFault("mend 1" + many("+1", 48) + " by 1;wait if day=1", 116);
        ordersFault("mend 1" + many("+1", 47) + " by 1 times 2 if 1=1", 119);
        ordersFault("mend 1" + many("+1", 46) + " by 1 times 2 if 1=1", -1);
        ordersFault("send 1+1+1+1+1+1+1+1+1+1 from 1+1+1+1+1+1+1+1+1+1 toward 1+1+1+1+1+1+1+1+1+1 with "
                + "1+1+1+1+1+1+1+1+1+1 if 1+1+1+1+1=1+1+1+1+1", -1);
        ordersFault("send 1+1+1+1+1+1+1+1+1+1 from 1+1+1+1+1+1+1+1+1+1 toward 1+1+1+1+1+1+1+1+1+1 with "
                + "1+1+1+1+1+1+1+1+1+1 if 1+1+1+1+1=1+1+1+1+1+1", 125);
    }

    private static void bracketsAtMost() {
        EDGES.says("8 brackets of both kinds within one another (FAULT at the 9th) at most");
        for (int n = 1; n <= 10; n++) {
            lawFault("slows " + many("[", n) + "1" + many("]", n), n > 8 ? 14 : -1);
            lawFault("eats if " + many("(", n) + "1=1" + many(")", n), n > 8 ? 16 : -1);
            ordersFault("mend " + many("[", n) + "1" + many("]", n) + " by 1", n > 8 ? 13 : -1);
            for (int round = 1; round < n; round++) {
                String opened = many("(", round) + many("[", n - round);
                String closed = many("]", n - round) + "=1" + many(")", round);
                lawFault("eats if " + opened + "1" + closed, n > 8 ? 16 : -1);
            }
        }
        lawFault("eats if " + many("(", 8) + "1=[1]" + many(")", 8), 18);
        lawFault("eats if " + many("(not ", 8) + "1=1" + many(")", 8), -1);
        lawFault("eats if " + many("(not ", 9), 48);
        // Those closed again are not within one another.
        lawFault("slows " + many("[1]+", 30) + "[1]", -1);
        lawFault("slows [[[[[[[[1]+[1]]+[[1]]]]]]]]", -1);
        lawFault("eats if (1=1) and (1=1) or (1=1) and (1=1) or (1=1) and (1=1) or (1=1) and (1=1) or (1=1)", -1);
        lawFault("slows " + many("[", 8) + "1" + many("]", 8) + "+" + many("[", 8) + "1" + many("]", 8), -1);
        lawFault("slows " + many("[", 8) + "1" + many("]", 8) + "+" + many("[", 9), 32);
        lawFault("slows " + many("[", 8) + "1" + many("]", 9), 23);
        lawFault("slows " + many("[", 8) + "1" + many("]", 7), 22);
        lawFault("eats if " + many("(", 400 - 8), 16);
        // The next TEXT is counted anew, also behind one that was left open.
        EDGES.done(x -> {
            Edges.law(x, "slows " + many("[", 8) + "1");
            Edges.law(x, "slows " + many("[", 9));
            Edges.put(x, "slows " + many("[", 8) + "1" + many("]", 8));
        }, "law() of eight behind some left open", CheesePost::law, 0);
    }

    private static void faults() {
        EDGES.says("FAULT of the latest law(), orders() that read a TEXT: its place; NONE without.");
        EDGES.asksAlone(Edges.BARE, "fault() of none", CheesePost::fault, -1);
        EDGES.asked(x -> Edges.law(x, "shuts it"), "fault() of law()", CheesePost::fault, 6);
        EDGES.asked(x -> Edges.orders(x, "wait it"), "fault() of orders()", CheesePost::fault, 5);
        EDGES.asked(x -> {
            Edges.law(x, "shuts it");
            Edges.law(x, "shuts");
        }, "fault() behind a good law()", CheesePost::fault, -1);
        EDGES.asked(x -> {
            Edges.law(x, "shuts it");
            Edges.orders(x, "wait");
        }, "fault() behind good orders()", CheesePost::fault, -1);
        EDGES.asked(x -> {
            Edges.law(x, "shuts it");
            Edges.orders(x, "mend 80 by 1");
        }, "fault() behind orders() that can't be", CheesePost::fault, -1);
        EDGES.asked(x -> {
            Edges.law(x, "shuts it");
            x.row();
            x.end(0);
        }, "fault() behind row()", CheesePost::fault, 6);
        EDGES.asked(x -> {
            Edges.orders(x, "wait it");
            Edges.law(x, "");
        }, "fault() behind an empty TEXT", CheesePost::fault, 0);
        for (String text : new String[] {"shuts it", "slows 1001", "eats if", many("eats;", 13)}) {
            EDGES.refusedText(Edges.PAIR, text, CheesePost::law, -6);
        }
    }

    private static void forces() {
        EDGES.says("one is in FORCE (NONE at first: no CLAUSE)");
        EDGES.asked(Edges.BARE, "count(15)", x -> x.count(15), -1);
        Edges.Scene told = x -> {
            x.wheel(1, 1);
            Edges.law(x, "slows 9;costs 9;shuts;eats");
        };
        int[] without = {1, 1, 0, 0};
        for (int i = 0; i < 4; i++) {
            int what = i;
            EDGES.asked(told, "asks() of a LAW that is not in FORCE", x -> x.asks(1, 0, 1, what), without[i]);
            EDGES.asked(x -> {
                told.set(x);
                x.force(0);
                x.force(-1);
            }, "asks() of a LAW that is no longer", x -> x.asks(1, 0, 1, what), without[i]);
        }
        EDGES.says("A LAW is in FORCE (NONE: none): which was. -2.");
        EDGES.done(Edges.BARE, "force(NONE) without LAWS", x -> x.force(-1), -1);
        EDGES.refused(Edges.BARE, "force(0) without LAWS", x -> x.force(0), -2);
        EDGES.done(told, "force(0)", x -> x.force(0), -1);
        EDGES.refused(told, "force(1)", x -> x.force(1), -2);
        Edges.Scene forced = x -> {
            told.set(x);
            Edges.law(x, "shuts");
            x.force(0);
        };
        EDGES.done(forced, "force(1)", x -> x.force(1), 0);
        EDGES.done(forced, "force(NONE)", x -> x.force(-1), 0);
        for (int law : new int[] {-2, 2, 5, 6, 7, Integer.MIN_VALUE, Integer.MAX_VALUE}) {
            EDGES.refused(forced, "force(" + law + ")", x -> x.force(law), -2);
        }
        EDGES.done(Edges.FULL, "force(5), the last", x -> x.force(5), 4);
        EDGES.refused(Edges.FULL, "force(6)", x -> x.force(6), -2);
    }

    /** What a LAW tells of a WHEEL of SIZE 4, RIPE 6 with SPEED 7 at 21 (x 5, y 2; HEIGHT 33, FENCE 8) on DAY 77. */
    private static void told(String law, int what, int want) {
        EDGES.asked(x -> {
            x.wheel(4, 6);
            x.height(21, 33);
            x.fence(21, 8);
            x.terms(0, 77);
            Edges.under(x, law);
        }, law, x -> x.asks(21, 0, 7, what), want);
    }

    /** Whether a TEST is so; of a BROKEN one neither it is nor that it is not. */
    private static void isSo(String test) {
        told("slows 9 if " + test, 0, 9);
        told("slows 9 if not (" + test + ")", 0, 1);
    }

    private static void isBroken(String test) {
        told("slows 9 if " + test, 0, 1);
        told("slows 9 if not (" + test + ")", 0, 1);
    }

    private static void wordsOfLaws() {
        EDGES.says("It is asked of a WHEEL with a SPEED in a CELL (fence: as it stands told; hunger: of the HOUSE there, -1 without).");
        isSo("x=5");
        isSo("y=2");
        isSo("height=33");
        isSo("fence=8");
        isSo("speed=7");
        isSo("size=4");
        isSo("ripe=6");
        isSo("hunger=0-1");
        isSo("day=77");
        for (int hunger : new int[] {0, 9}) {
            EDGES.asked(x -> {
                x.wheel(1, 1);
                x.house(21, hunger);
                Edges.under(x, "slows 20+hunger");
            }, "hunger of " + hunger, x -> x.asks(21, 0, 7, 0), 20 + hunger);
        }
        // A SPEED of 0 .. 99, DAYS, SIZES, HEIGHTS, FENCES to their edges.
        for (int n : new int[] {0, 99}) {
            EDGES.asked(x -> {
                x.wheel(1, 1);
                Edges.under(x, "slows speed");
            }, "speed of " + n, x -> x.asks(21, 0, n, 0), n);
            EDGES.asked(x -> {
                x.wheel(1, 1);
                x.height(79, n);
                Edges.under(x, "slows height");
            }, "height of " + n, x -> x.asks(79, 0, 5, 0), n);
            EDGES.asked(x -> {
                x.wheel(1, 1);
                x.terms(0, n);
                Edges.under(x, "slows day");
            }, "day of " + n, x -> x.asks(79, 0, 5, 0), n);
        }
        for (int n : new int[] {0, 9}) {
            EDGES.asked(x -> {
                x.wheel(9, n);
                x.fence(79, n);
                Edges.under(x, "slows ripe+fence+size");
            }, "ripe and fence of " + n, x -> x.asks(79, 0, 5, 0), n + n + 9);
        }
        // As a WHEEL broke it on paper, it stands told; as one that was sent broke it, it does not.
        Edges.Scene fenced = x -> {
            Edges.PAIR.set(x);
            x.wheel(2, 0);
            x.fence(11, 1);
            Edges.under(x, "eats;slows 0-5+fence*7");
        };
        EDGES.asked(fenced, "a FENCE told", x -> x.asks(11, 0, 5, 0), 2);
        EDGES.asked(fenced, "SPEED behind a FENCE that is broken on paper", x -> x.roll(3, 2, 5, 0, 3), 5 + 10 - 1 + 10 - 2 + 20);
        EDGES.asked(x -> {
            fenced.set(x);
            x.send(25);
        }, "a FENCE broken", x -> x.asks(11, 0, 5, 0), 0);
    }

    private static void beyondABillion() {
        EDGES.says("Beyond 1,000,000,000 either way, a SUM, a TEST is BROKEN.");
        String billion = "1000*1000*1000";
        isSo(billion + ">0");
        isSo("[" + billion + "]=[" + billion + "]");
        isSo("0-" + billion + "<0");
        isSo("0<" + billion);
        isSo("0-[" + billion + "-1]<0");
        isSo("[" + billion + "]/[" + billion + "]=1");
        isBroken(billion + "+1>0");
        isBroken("0-" + billion + "-1<0");
        isBroken("0<" + billion + "+1");
        isBroken("1>0-1-" + billion);
        isBroken("[" + billion + "]*2>0");
        isBroken("[" + billion + "+1]*0=0");
        isBroken("[0-" + billion + "-1]*0=0");
        isBroken(billion + "*1000>0");
        isBroken("[0-" + billion + "]*1000<0");
        isBroken("[" + billion + "]*[" + billion + "]>0");
        isBroken("[0-" + billion + "]*[" + billion + "]<0");
        isBroken("[0-" + billion + "]*[0-" + billion + "]>0");
        isBroken("[" + billion + "]+[" + billion + "]>0");
        isBroken("[0-" + billion + "]-[" + billion + "]<0");
        // 2 to the 32nd and to the 64th would be 0, if they wrapped around.
        isBroken("[256*256]*[256*256]=0");
        isBroken("[256*256]*[256*256]<1");
        isBroken("[256*256*256*32]*[256*256*256*32]=0");
        told("slows 5;slows " + billion, 0, 99);
        told("slows 5;slows " + billion + "+1", 0, 5);
        told("slows 5;slows 0-" + billion, 0, 0);
        told("slows 5;slows 0-" + billion + "-1", 0, 5);
        told("costs 5;costs " + billion, 1, 999);
        told("costs 5;costs " + billion + "+1", 1, 5);
        told("shuts if " + billion + "+1>0", 2, 0);
        told("eats if " + billion + "+1>0", 3, 0);
    }

    private static void dividing() {
        EDGES.says("divided by 0 (/ cut towards 0, % what is left then)");
        isBroken("1/0=0");
        isBroken("0/0=0");
        isBroken("1%0=0");
        isBroken("0%0=0");
        isBroken("1/[x-5]=0");
        isBroken("1=1/0");
        isBroken("0*[1/0]=0");
        isBroken("1%[1/2]=1");
        String[] so = {"7/2=3", "7%2=1", "[0-7]/2=0-3", "[0-7]%2=0-1", "7/[0-2]=0-3", "7%[0-2]=1", "[0-7]/[0-2]=3", "[0-7]%[0-2]=0-1",
            "0/5=0", "0%5=0", "1/1000=0", "1%1000=1", "[0-1]/1000=0", "[0-1]%1000=0-1", "999%1000=999", "6/3=2", "6%3=0", "7/2*2=6",
            "7*2/4=3", "7%4*2=6", "7-2-1=4", "2+3*4=14", "7-6/3=5", "100/10/5=2", "100/[10/5]=50", "7%5%2=0"};
        for (String test : so) isSo(test);
        told("slows 5;slows 1/0", 0, 5);
        told("slows 5;slows 1%0", 0, 5);
        told("costs 5;costs 1/[1-1]", 1, 5);
        told("slows 5;slows 9/1", 0, 9);
    }

    private static void holding() {
        EDGES.says("\"or\", \"and\" ask what stands behind only if it can still matter");
        isSo("1=1 or 1/0=1");
        isBroken("1=2 or 1/0=1");
        isBroken("1/0=1 or 1=1");
        isSo("not (1=2 and 1/0=1)");
        isBroken("1=1 and 1/0=1");
        isBroken("1/0=1 and 1=2");
        isSo("1=1 or 1=1 or 1/0=1");
        isSo("1=2 or 1=1 or 1/0=1");
        isBroken("1=2 or 1/0=1 or 1=1");
        isSo("not (1=1 and 1=2 and 1/0=1)");
        isSo("1=2 and 1/0=1 or 1=1");
        isBroken("1=1 and 1/0=1 or 1=1");
        isSo("1=1 or 1=1 and 1/0=1");
        isSo("(1=1 or 1/0=1) and 1=1");
        isBroken("(1=1 or 1/0=1) and 1/0=1");
        isSo("not (not 1=1 and 1/0=1)");
        isBroken("not 1/0=1");
        isSo("not 1=2 or 1/0=1");
        EDGES.says("BOTH {\"or\" BOTH}; PLAIN {\"and\" PLAIN}; \"not\" PLAIN");
        isSo("1=1 or 1=2 and 1=2");
        isSo("not ((1=1 or 1=2) and 1=2)");
        isSo("1=2 and 1=2 or 1=1");
        isSo("not 1=2 and 1=1");
        isSo("not (not 1=1 and 1=1)");
        isSo("not 1=1 or 1=1");
        isSo("not not 1=1");
        isSo("not not not 1=2");
        EDGES.says("\"<\" | \">\" | \"=\"");
        String[] so = {"1<2", "not 2<2", "not 3<2", "2>1", "not 2>2", "not 2>3", "2=2", "not 2=3", "0-1<0", "0>0-1"};
        for (String test : so) isSo(test);
        EDGES.says("A CLAUSE HOLDS, if its \"if\" (if it has one) is so, and neither that nor its SUM is BROKEN");
        told("slows 5;slows 9 if 1=1", 0, 9);
        told("slows 5;slows 9 if 1=2", 0, 5);
        told("slows 5;slows 9 if 1/0=1", 0, 5);
        told("slows 5;slows 9/0 if 1=1", 0, 5);
        told("slows 5;slows 9/0 if 1=2", 0, 5);
        told("shuts if 1/0=1;shuts if 1=2", 2, 0);
        told("shuts if 1/0=1;shuts if 1=1", 2, 1);
        told("shuts if 1=1;shuts if 1=2", 2, 1);
        told("eats if 1/0=1", 3, 0);
        told("eats if 1=1;eats if 1=2", 3, 1);
    }

    private static void slowsAndCosts() {
        EDGES.says("A CELL SLOWS as the last \"slows\" that HOLDS tells, 0 .. 99 (else the nearest), 1 without.");
        int[][] slows = {{0, 0}, {1, 1}, {98, 98}, {99, 99}, {100, 99}, {1000, 99}};
        for (int[] s : slows) told("slows " + s[0], 0, s[1]);
        told("slows 0-1", 0, 0);
        told("slows 0-1000", 0, 0);
        told("slows 1000*1000", 0, 99);
        told("slows 2;slows 3;slows 4", 0, 4);
        told("slows 2;slows 3;slows 4 if 1=2", 0, 3);
        told("slows 2 if 1=2", 0, 1);
        told("slows 1/0", 0, 1);
        told("costs 5;shuts;eats", 0, 1);
        // As it rolls, on the flat: SPEED 99 less 98 goes on, less 99 does not; slowed by 0 it comes to the VALLEY.
        for (int slowed : new int[] {0, 98, 99, 100}) {
            EDGES.asked(x -> {
                x.wheel(1, 0);
                Edges.flat(x, 50);
                Edges.under(x, "slows " + slowed + ";shuts if not x=5");
            }, "STEPS when slowed " + slowed, x -> x.roll(44, 1, 99, 0, 2), slowed == 0 ? 16 : slowed == 98 ? 1 : 0);
        }
        EDGES.says("A THROW COSTS (asked in the DAIRY's CELL) what \"costs\" tells, 0 .. 999, 1 without.");
        int[][] costs = {{0, 0}, {1, 1}, {998, 998}, {999, 999}, {1000, 999}};
        for (int[] c : costs) told("costs " + c[0], 1, c[1]);
        told("costs 0-1", 1, 0);
        told("costs 1000*1000", 1, 999);
        told("costs 2;costs 3", 1, 3);
        told("costs 2;costs 3 if 1=2", 1, 2);
        told("costs 2 if 1=2", 1, 1);
        told("slows 5;shuts;eats", 1, 1);
        for (int cost : new int[] {0, 999, 1000}) {
            EDGES.asked(x -> {
                Edges.PAIR.set(x);
                Edges.under(x, "costs " + cost);
            }, "aim(0, 2) of " + cost, x -> x.aim(0, 2), Math.min(cost, 999));
        }
        EDGES.asked(x -> {
            Edges.PAIR.set(x);
            Edges.under(x, "costs y*100+x*10+speed");
        }, "aim(0, 2), asked at the DAIRY", x -> x.aim(0, 2), 30 + 1);
        EDGES.says("A CELL is SHUT, if \"shuts\" HOLDS; a HOUSE EATS what comes, if \"eats\" does.");
        told("shuts", 2, 1);
        told("shuts", 3, 0);
        told("eats", 3, 1);
        told("eats", 2, 0);
        told("slows 5;costs 5", 2, 0);
        told("slows 5;costs 5", 3, 0);
    }

    private static void asking() {
        EDGES.says("Of a WHEEL with a SPEED 0 .. 99 in a CELL how it is SLOWED (what 0), what is told to COST (1), whether it is SHUT (2: 1, 0), EATEN (3). NONE.");
        Edges.Scene told = x -> {
            Edges.PAIR.set(x);
            Edges.under(x, "slows 3;costs 4;shuts");
        };
        int[] due = {3, 4, 1, 0};
        for (int i = 0; i < 4; i++) {
            int what = i;
            EDGES.asksAlone(told, "asks(35, 0, 5, " + i + ")", x -> x.asks(35, 0, 5, what), due[i]);
            EDGES.none(told, "asks(80, 0, 5, " + i + ")", x -> x.asks(80, 0, 5, what));
            EDGES.none(told, "asks(-1, 0, 5, " + i + ")", x -> x.asks(-1, 0, 5, what));
            EDGES.none(told, "asks(35, 1, 5, " + i + ")", x -> x.asks(35, 1, 5, what));
            EDGES.none(told, "asks(35, -1, 5, " + i + ")", x -> x.asks(35, -1, 5, what));
            EDGES.none(told, "asks(35, 0, -1, " + i + ")", x -> x.asks(35, 0, -1, what));
            EDGES.none(told, "asks(35, 0, 100, " + i + ")", x -> x.asks(35, 0, 100, what));
            EDGES.asked(told, "asks(35, 0, 0, " + i + ")", x -> x.asks(35, 0, 0, what), due[i]);
            EDGES.asked(told, "asks(35, 0, 99, " + i + ")", x -> x.asks(35, 0, 99, what), due[i]);
        }
        for (int n : Edges.FAR) {
            EDGES.none(told, "asks(35, " + n + ", 5, 0)", x -> x.asks(35, n, 5, 0));
            EDGES.none(told, "asks(35, 0, " + n + ", 0)", x -> x.asks(35, 0, n, 0));
            EDGES.none(told, "asks(35, 0, 5, " + n + ")", x -> x.asks(35, 0, 5, n));
        }
        EDGES.none(told, "asks(35, 0, 5, -1)", x -> x.asks(35, 0, 5, -1));
        EDGES.none(told, "asks(35, 0, 5, 4)", x -> x.asks(35, 0, 5, 4));
        EDGES.asked(x -> {
            told.set(x);
            x.send(25);
        }, "asks() of one GONE", x -> x.asks(35, 0, 5, 0), 3);
    }

    private static void ran(Edges.Scene scene, String text, int want) {
        EDGES.done(x -> {
            scene.set(x);
            x.end(0);
            Edges.put(x, text);
        }, text, CheesePost::orders, want);
    }

    private static void ranTo(Edges.Scene scene, String text, String what, Edges.Call call, int want) {
        EDGES.asked(x -> {
            scene.set(x);
            x.end(0);
            Edges.orders(x, text);
        }, what + " behind " + text, call, want);
    }

    private static void timesOfOrders() {
        EDGES.says("each as often as TIMES tell (once without)");
        ran(Edges.BARE, "wait", 1);
        ran(Edges.BARE, "wait times 1", 1);
        ran(Edges.BARE, "wait times 20", 20);
        ran(Edges.BARE, "wait times 3;wait;wait times 2", 6);
        ranTo(Edges.BARE, "wait times 20", "count(16)", x -> x.count(16), 20);
        ran(Edges.BARE, "wait times 20;wait times 20;wait times 20;wait times 20;wait times 19", 99);
        ranTo(Edges.BARE, "wait times 20;wait times 20;wait times 20;wait times 20;wait times 19", "count(16)", x -> x.count(16), 99);
        EDGES.says("each time \"if\" is asked (not run, if it is not so or BROKEN), then SUMS from the left");
        ran(Edges.BARE, "wait times 20 if day<5", 5);
        ran(Edges.BARE, "wait times 20 if day%2=0", 1);
        ran(Edges.BARE, "wait if 1=2", 0);
        ran(Edges.BARE, "wait if 1/0=1", 0);
        ran(Edges.BARE, "wait times 20 if 1/[day-3]<1000", 3);
        ran(Edges.BARE, "wait if 1000*1000*1000+1>0;wait", 1);
        ran(Edges.BARE, "mend 80 by 1 if 1=2;mend 1/0 by 1 if 1/0=1;send 0 from 0 toward 0 with 1 if 1=2;wait", 1);
        ran(Edges.BARE, "mend done by done+1 times 9", 9);
        for (int i = 0; i < 10; i++) {
            int cell = i;
            ranTo(Edges.BARE, "mend done by done+1 times 9", "at(" + i + ", 1)", x -> x.at(cell, 1), i < 9 ? i + 1 : 0);
        }
        // A SUM is asked anew each time too: the tenth is more than a FENCE can be.
        EDGES.refusedText(Edges.PAIR, "mend done by done times 11", CheesePost::orders, -3);
        ran(Edges.PAIR, "mend done by done times 10", 10);
    }

    private static void wordsOfOrders() {
        EDGES.says("wheels: how many are not GONE");
        ran(Edges.BARE, "wait if wheels=0", 1);
        ran(x -> {
            for (int i = 0; i < 8; i++) x.wheel(1, 1);
        }, "wait if wheels=8", 1);
        ran(Edges.FULL, "wait if wheels=2", 1);
        ran(Edges.PAIR, "wait if wheels=1;send 0 from 0 toward 2 with 5;wait if wheels=0", 3);
        EDGES.says("fences: CELLS with a FENCE");
        ran(Edges.BARE, "wait if fences=0", 1);
        ran(x -> {
            for (int cell = 0; cell < 80; cell++) x.fence(cell, 1 + cell % 9);
        }, "wait if fences=80", 1);
        ran(Edges.BARE, "mend 0 by 1;mend 79 by 9;wait if fences=2;mend 0 by 0;wait if fences=1;mend 79 by 1;wait if fences=1", 7);
        Edges.Scene fenced = x -> {
            Edges.PAIR.set(x);
            x.fence(11, 1);
            x.wheel(2, 0);
        };
        ran(fenced, "wait if fences=1;send 0 from 0 toward 2 with 5;wait if fences=0", 3);
        EDGES.says("day");
        ran(x -> x.terms(0, 98), "wait if day=98;wait if day=100;mend 1 by 1 if day=99", 2);
        EDGES.says("done: how many were run in this TEXT");
        ran(Edges.BARE, "wait if done=0;wait if done=1;wait if 1=2;wait if done=2;wait times 3;wait if done=6", 7);
        ran(x -> Edges.orders(x, "wait"), "wait if done=0", 1);
        ran(Edges.BARE, many("mend 1 by 1 times 20;", 11) + "mend 2 by 2 if done=220", 221);
        EDGES.says("came: how many WHEELS sent in it came to HOUSES that did not EAT");
        Edges.Scene four = x -> {
            x.dairy(3);
            x.dairy(5);
            x.house(35, 0);
            x.wheel(2, 0);
            x.wheel(2, 9);
            x.wheel(2, 0);
            x.wheel(2, 0);
            Edges.under(x, "eats if ripe=9");
            x.send(480 + 25);
        };
        ran(four, "wait if came=0", 1);
        ran(four, "send 0 from 0 toward 2 with 5;wait if came=1;wait if last=35", 3);
        ran(four, "send 1 from 0 toward 2 with 5;wait if came=0;wait if last=35", 3);
        ran(four, "send 2 from 1 toward 2 with 5;wait if came=0;wait if last=105", 3);
        ran(four, "send 0 from 0 toward 2 with 5;send 1 from 0 toward 2 with 5;send 2 from 0 toward 2 with 5;wait if came=2", 4);
        EDGES.says("last: where the latest sent in it ended (-1: none)");
        ran(four, "wait if last=0-1", 1);
        ran(four, "send 0 from 0 toward 2 with 5;send 2 from 1 toward 2 with 5;wait if last=105;wait if last=35", 3);
        ran(Edges.PAIR, "wait if last=0-1;send 0 from 0 toward 2 with 5;wait;mend 1 by 1;wait if last=35", 5);
    }

    private static void ordersThatCanBe() {
        EDGES.says("To send a WHEEL from a DAIRY toward a DIRECTION with a SPEED");
        Edges.Scene flat = x -> {
            Edges.flat(x, 50);
            for (int i = 0; i < 8; i++) x.wheel(9, 0);
            for (int cell : new int[] {20, 29, 44, 53}) x.dairy(cell);
        };
        ranTo(flat, "send 0 from 0 toward 0 with 2", "undo()", CheesePost::undo, 2);
        int[] to = {12, 21, 28, 19};
        for (int d = 0; d < 4; d++) {
            int direction = d;
            ran(flat, "send 0 from 0 toward " + d + " with 2;mend 1 by 1 if last=" + to[d], 2);
            ranTo(flat, "send 7 from 3 toward " + d + " with 9", "undo()", CheesePost::undo, 1120 + 120 + 10 * direction + 9);
        }
        ran(flat, "send 7 from 3 toward 3 with 9", 1);
        ran(flat, "send 0 from 0 toward 0 with 1;mend 1 by 1 if last=20", 2);
        ranTo(flat, "send 7 from 3 toward 3 with 9", "of(7, 2)", x -> x.of(7, 2), 1);
        EDGES.says("to mend: a CELL's FENCE becomes so strong");
        for (int cell : new int[] {0, 79}) {
            for (int strong : new int[] {0, 9}) {
                Edges.Scene fenced = x -> x.fence(cell, 5);
                ran(fenced, "mend " + cell + " by " + strong, 1);
                ranTo(fenced, "mend " + cell + " by " + strong, "at(" + cell + ", 1)", x -> x.at(cell, 1), strong);
            }
        }
        EDGES.says("to wait: the next DAY");
        ran(x -> x.terms(0, 98), "wait", 1);
        ranTo(x -> x.terms(0, 98), "wait", "count(16)", x -> x.count(16), 99);
        EDGES.says("ORDERS are TEXTS: each by itself, whatever was told ahead of it");
        Edges.Scene told = x -> {
            Edges.PAIR.set(x);
            EDGES.due("send", Edges.orders(x, "wait if 1=2;send 0 from 0 toward 2 with 5 times 1 if wheels>0;wait times 3"), 4);
            EDGES.due("mend", Edges.orders(x, "mend 1 by 1"), 1);
            EDGES.due("wait", Edges.orders(x, "wait"), 1);
            EDGES.due("wait twice", Edges.orders(x, "wait;wait"), 2);
            EDGES.due("a LAW", Edges.law(x, "slows 1+1;costs 5 if 1=2"), 0);
        };
        ran(told, "mend 2 by 2;mend 3 by 3;wait", 3);
        ranTo(told, "mend 2 by 2;mend 3 by 3;wait", "count(16)", x -> x.count(16), 7);
        ranTo(told, "mend 2 by 2;mend 3 by 3;wait", "count(7)", x -> x.count(7), 3);
        EDGES.says("they are run: how many were run");
        ran(Edges.BARE, "wait if 1=2", 0);
        ran(Edges.PAIR, "mend 1 by 1;wait times 2;send 0 from 0 toward 2 with 5", 4);
    }

    private static void cannot(Edges.Scene scene, String text, int stopped) {
        EDGES.refusedText(scene, text, CheesePost::orders, -3);
        ranTo(scene, text, "stopped()", CheesePost::stopped, stopped);
        ranTo(scene, text, "fault()", CheesePost::fault, -1);
    }

    private static void ordersThatCannotBe() {
        EDGES.says("One that can't be (a BROKEN SUM, a number that can't be, no such, GONE, a DAY above 99) ends it: all is as it was ahead of it.");
        String send = "send 6 from 0 toward 2 with 5;mend 1 by 9;wait;";
        String[] bad = {"send 8 from 0 toward 2 with 5", "send 0-1 from 0 toward 2 with 5", "send 7 from 4 toward 2 with 5",
            "send 7 from 0-1 toward 2 with 5", "send 7 from 0 toward 4 with 5", "send 7 from 0 toward 0-1 with 5",
            "send 7 from 0 toward 2 with 0", "send 7 from 0 toward 2 with 10",
            "send 0 from 0 toward 2 with 5", "send 1/0 from 0 toward 2 with 5", "send 7 from 1/0 toward 2 with 5",
            "send 7 from 0 toward 1%0 with 5", "send 7 from 0 toward 2 with 5/0", "mend 80 by 1", "mend 0-1 by 1", "mend 1 by 10",
            "mend 1 by 0-1", "mend 1/0 by 1", "mend 1 by 1/0", "mend 1000*1000*1000+1 by 1", "mend 100 by 1", "mend 107 by 1",
            "mend last by 1+9", "mend 1 by 1000*1000*1000", "send 1000*1000*1000 from 0 toward 2 with 5",
            "send 7 from 1000*1000*1000 toward 2 with 5", "send 7 from 0 toward 2 with [256*256]*[256*256]+5",
            "mend [256*256]*[256*256]+1 by 1", "mend 256 by 1", "mend 1 by 256"};
        for (String text : bad) {
            cannot(Edges.FULL, text, 0);
            cannot(Edges.FULL, send + text, 3);
        }
        cannot(Edges.FULL, send + "send 6 from 0 toward 2 with 5", 3);
        Edges.Scene few = x -> {
            Edges.PAIR.set(x);
            x.wheel(9, 9);
        };
        cannot(few, "send 2 from 0 toward 2 with 5", 0);
        cannot(few, "send 0 from 1 toward 2 with 5", 0);
        cannot(few, "send 1 from 0 toward 2 with 5;send 0 from 0 toward 2 with 5;send 1 from 0 toward 2 with 5", 2);
        cannot(few, "send 0 from 0 toward 2 with 5 times 2", 0);
        cannot(few, "send done from 0 toward 2 with 5 times 3", 0);
        ran(few, "send done from 0 toward 2 with 5 times 2", 2);
        cannot(x -> x.terms(0, 99), "wait", 0);
        cannot(x -> x.terms(0, 98), "wait;wait", 1);
        cannot(x -> x.terms(0, 80), "wait times 20", 0);
        cannot(Edges.BARE, "wait times 20;wait times 20;wait times 20;wait times 20;wait times 20", 4);
        ran(x -> x.terms(0, 99), "wait if day<99", 0);
        // The twelfth, and the last of twenty times: all before is gone back to.
        cannot(Edges.FULL, many("mend done by 1;", 11) + "mend 80 by 1", 11);
        cannot(Edges.FULL, "mend done+61 by 5 times 20", 0);
        ran(Edges.FULL, "mend done+60 by 5 times 20", 20);
        EDGES.says("are run wholly or not at all");
        cannot(Edges.FULL, "send 6 from 0 toward 2 with 5;send 7 from 1 toward 2 with 9;send 0 from 0 toward 2 with 5", 2);
    }

    private static void stopping() {
        EDGES.says("Which ORDER of the latest orders() could not be. NONE.");
        EDGES.asksAlone(Edges.BARE, "stopped() ahead of any", CheesePost::stopped, -1);
        Edges.Scene third = x -> {
            Edges.PAIR.set(x);
            Edges.orders(x, "wait;wait if 1=2;mend 80 by 1");
        };
        EDGES.asksAlone(third, "stopped(), those not run are counted", CheesePost::stopped, 2);
        ranTo(third, "wait", "stopped()", CheesePost::stopped, -1);
        ranTo(third, "mend 80 by 1", "stopped()", CheesePost::stopped, 0);
        ranTo(Edges.BARE, many("wait;", 11) + "mend 80 by 1", "stopped()", CheesePost::stopped, 11);
        EDGES.asked(x -> {
            third.set(x);
            Edges.law(x, "shuts");
        }, "stopped() behind law()", CheesePost::stopped, 2);
        EDGES.asked(x -> {
            third.set(x);
            x.image(0);
            x.back(0);
        }, "stopped() behind back()", CheesePost::stopped, 2);
    }
}
