/** For each promise of the document: ordinary inputs, the edges that it names, and wrong inputs. */
public final class PromisesTest {
    private static int wrong = 0;
    private static int promise = 0;

    private static void due(String call, int got, int want) {
        if (got != want) {
            wrong++;
            System.out.println("promise " + promise + ": " + call + " answered " + got + ", due is " + want);
        }
    }

    public static void main(String[] args) {
        tellingTheLand();
        tellingTheGoods();
        theTape();
        theLaws();
        theLimitsOfTexts();
        theOrders();
        ordersGoneBackTo();
        rolling();
        slipping();
        sending();
        aiming();
        posting();
        tracing();
        walls();
        rinds();
        replies();
        summers();
        images();
        imagesKeepAll();
        counts();
        lawsToldAnew();
        System.out.println(wrong == 0 ? "all promises hold" : wrong + " answers are not as due");
        if (wrong != 0) System.exit(1);
    }

    /** Puts a text on the tape, behind what is there. */
    private static void put(CheesePost x, String text) {
        int before = x.count(9);
        for (int i = 0; i < text.length(); i += 20) {
            int[] n = new int[5];
            for (int b = 0; b < 20; b++) {
                n[b / 4] = n[b / 4] << 8 | (i + b < text.length() ? text.charAt(i + b) & 255 : 0);
            }
            x.feed(n[0], n[1], n[2], n[3], n[4]);
        }
        due("end behind a text", x.end(before + text.length()), before + text.length());
    }

    private static void puts(CheesePost x, int... bytes) {
        StringBuilder text = new StringBuilder();
        for (int b : bytes) text.append((char) b);
        put(x, text.toString());
    }

    private static int law(CheesePost x, String text) {
        put(x, text);
        return x.law();
    }

    private static int orders(CheesePost x, String text) {
        put(x, text);
        return x.orders();
    }

    private static void lawFault(String text, int place) {
        CheesePost x = new CheesePost();
        due("law() of " + text, law(x, text), place < 0 ? 0 : -6);
        due("fault() of " + text, x.fault(), place);
        due("count(5) of " + text, x.count(5), place < 0 ? 1 : 0);
        due("count(9) of " + text, x.count(9), 0);
    }

    private static void ordersFault(String text, int place) {
        CheesePost x = new CheesePost();
        int answer = orders(x, text);
        due("orders() of " + text + " is -6", answer == -6 ? 1 : 0, place < 0 ? 0 : 1);
        due("fault() of " + text, x.fault(), place);
        due("count(9) of " + text, x.count(9), 0);
    }

    private static String many(String text, int times) {
        StringBuilder all = new StringBuilder();
        for (int i = 0; i < times; i++) all.append(text);
        return all.toString();
    }

    private static void refused(CheesePost x, String call, int got, int by) {
        due(call, got, by);
        due("status() behind " + call, x.status(), by);
    }

    private static void answered(CheesePost x, String call, int got, int want) {
        due(call, got, want);
        due("status() behind " + call, x.status(), 0);
    }

    private static void tellingTheLand() {
        CheesePost x = new CheesePost();
        promise = 1;
        due("status()", x.status(), 0);
        for (int cell = 0; cell < 80; cell++) {
            due("at(" + cell + ", 0)", x.at(cell, 0), 90 - 10 * (cell / 8));
            due("at(" + cell + ", 1)", x.at(cell, 1), 0);
            due("at(" + cell + ", 2)", x.at(cell, 2), -1);
            due("at(" + cell + ", 3)", x.at(cell, 3), -1);
            due("at(" + cell + ", 4)", x.at(cell, 4), -1);
        }
        promise = 2;
        answered(x, "height(0, 99)", x.height(0, 99), 90);
        answered(x, "height(0, 0)", x.height(0, 0), 99);
        answered(x, "height(79, 5)", x.height(79, 5), 0);
        due("at(79, 0)", x.at(79, 0), 5);
        refused(x, "height(-1, 5)", x.height(-1, 5), -1);
        refused(x, "height(80, 5)", x.height(80, 5), -1);
        refused(x, "height(5, -1)", x.height(5, -1), -1);
        refused(x, "height(5, 100)", x.height(5, 100), -1);
        due("at(5, 0)", x.at(5, 0), 90);
        promise = 3;
        answered(x, "fence(7, 9)", x.fence(7, 9), 0);
        answered(x, "fence(7, 0)", x.fence(7, 0), 9);
        refused(x, "fence(7, 10)", x.fence(7, 10), -1);
        refused(x, "fence(7, -1)", x.fence(7, -1), -1);
        refused(x, "fence(80, 1)", x.fence(80, 1), -1);
        refused(x, "fence(-1, 1)", x.fence(-1, 1), -1);
        promise = 4;
        for (int i = 0; i < 8; i++) answered(x, "house(10 and i, i)", x.house(10 + i, i), i);
        refused(x, "house(10, 0)", x.house(10, 0), -3);
        refused(x, "house(10, 10)", x.house(10, 10), -1);
        refused(x, "house(20, 0)", x.house(20, 0), -5);
        refused(x, "house(80, 0)", x.house(80, 0), -1);
        refused(x, "house(-1, 0)", x.house(-1, 0), -1);
        refused(x, "house(20, -1)", x.house(20, -1), -1);
        promise = 5;
        answered(x, "dairy(20)", x.dairy(20), 0);
        refused(x, "dairy(80)", x.dairy(80), -1);
        refused(x, "dairy(-1)", x.dairy(-1), -1);
        answered(x, "dairy(10)", x.dairy(10), 1);
        answered(x, "dairy(20)", x.dairy(20), 2);
        answered(x, "dairy(79)", x.dairy(79), 3);
        refused(x, "dairy(3)", x.dairy(3), -5);
        refused(x, "dairy(90)", x.dairy(90), -1);
        promise = 9;
        due("at(12, 2)", x.at(12, 2), 2);
        due("at(12, 3)", x.at(12, 3), 2);
        due("at(20, 4)", x.at(20, 4), 0);
        due("at(10, 4)", x.at(10, 4), 1);
        due("at(12, 4)", x.at(12, 4), -1);
        due("at(12, 5)", x.at(12, 5), -1);
        due("at(12, -1)", x.at(12, -1), -1);
        due("at(80, 0)", x.at(80, 0), -1);
        due("at(-1, 0)", x.at(-1, 0), -1);
        due("at(100, 0)", x.at(100, 0), -1);
        due("status() is not at()'s", x.status(), -1);
    }

    private static void tellingTheGoods() {
        CheesePost x = new CheesePost();
        promise = 6;
        for (int i = 0; i < 8; i++) answered(x, "wheel(i and 1, i)", x.wheel(i + 1, i), i);
        refused(x, "wheel(1, 1)", x.wheel(1, 1), -5);
        refused(x, "wheel(0, 1)", x.wheel(0, 1), -1);
        refused(x, "wheel(10, 1)", x.wheel(10, 1), -1);
        refused(x, "wheel(1, -1)", x.wheel(1, -1), -1);
        refused(x, "wheel(1, 10)", x.wheel(1, 10), -1);
        promise = 10;
        due("of(7, 0)", x.of(7, 0), 8);
        due("of(7, 1)", x.of(7, 1), 7);
        due("of(7, 2)", x.of(7, 2), 0);
        due("of(7, 3)", x.of(7, 3), -1);
        due("of(7, -1)", x.of(7, -1), -1);
        due("of(8, 0)", x.of(8, 0), -1);
        due("of(-1, 0)", x.of(-1, 0), -1);
        due("of(0, 0) of a new one", new CheesePost().of(0, 0), -1);
        promise = 7;
        refused(x, "letter(0, 1)", x.letter(0, 1), -2);
        refused(x, "letter(0, 0)", x.letter(0, 0), -1);
        x.house(9, 1);
        for (int i = 0; i < 8; i++) answered(x, "letter(0, 99)", x.letter(0, 99), i);
        refused(x, "letter(0, 1)", x.letter(0, 1), -5);
        refused(x, "letter(1, 1)", x.letter(1, 1), -2);
        refused(x, "letter(-1, 1)", x.letter(-1, 1), -2);
        refused(x, "letter(0, 100)", x.letter(0, 100), -1);
        promise = 8;
        due("burn()", x.burn(), 8);
        due("burn()", x.burn(), 0);
        due("status() is not burn()'s", x.status(), -1);
        answered(x, "letter(0, 1)", x.letter(0, 1), 0);
        promise = 11;
        int[] first = {0, 3, 10, 2};
        int[] least = {0, 0, 1, 0};
        int[] most = {99, 20, 60, 9};
        for (int i = 0; i < 4; i++) {
            answered(x, "terms(i, least)", x.terms(i, least[i]), first[i]);
            answered(x, "terms(i, most)", x.terms(i, most[i]), least[i]);
            refused(x, "terms(i, above)", x.terms(i, most[i] + 1), -1);
            refused(x, "terms(i, below)", x.terms(i, least[i] - 1), -1);
            due("count(16 and i)", x.count(16 + i), most[i]);
        }
        refused(x, "terms(-1, 1)", x.terms(-1, 1), -1);
        refused(x, "terms(4, 1)", x.terms(4, 1), -1);
    }

    private static void theTape() {
        CheesePost x = new CheesePost();
        promise = 12;
        for (int i = 1; i <= 20; i++) due("feed", x.feed(0, 0, 0, 0, 0), 20 * i);
        due("feed beyond 400", x.feed(0, 0, 0, 0, 0), -1);
        due("count(9)", x.count(9), 400);
        promise = 13;
        due("end(401)", x.end(401), -1);
        due("end(-1)", x.end(-1), -1);
        due("end(400)", x.end(400), 400);
        due("end(381)", x.end(381), 381);
        due("feed behind 381", x.feed(0, 0, 0, 0, 0), -1);
        due("end(380)", x.end(380), 380);
        due("feed behind 380", x.feed(0, 0, 0, 0, 0), 400);
        due("end(0)", x.end(0), 0);
        due("end(1)", x.end(1), -1);
        promise = 14;
        refused(x, "row()", x.row(), -6);
        // y 9 from the first byte, then 1 .. 7; bytes above 127 are not below 0.
        x.feed(0x09010203, 0x04050607, 0xff63640a, 0, 0);
        due("end(9)", x.end(9), 9);
        answered(x, "row()", x.row(), 7);
        promise = 15;
        due("crumbs()", x.crumbs(), 1);
        due("at(72, 0)", x.at(72, 0), 1);
        due("at(78, 0)", x.at(78, 0), 7);
        due("at(79, 0)", x.at(79, 0), 0);
        due("count(9)", x.count(9), 0);
        puts(x, 3, 99, 100, 255, 0, 1, 2, 3, 4, 5, 200);
        answered(x, "row()", x.row(), 6);
        due("crumbs()", x.crumbs(), 4);
        due("at(24, 0)", x.at(24, 0), 99);
        due("at(25, 0)", x.at(25, 0), 60);
        due("at(26, 0)", x.at(26, 0), 60);
        due("at(27, 0)", x.at(27, 0), 0);
        due("at(31, 0)", x.at(31, 0), 4);
        due("at(32, 0)", x.at(32, 0), 50);
        puts(x, 10, 1);
        refused(x, "row() of y 10", x.row(), -6);
        due("crumbs() stay", x.crumbs(), 4);
        due("count(9)", x.count(9), 0);
        puts(x, 0);
        answered(x, "row() of a y alone", x.row(), 0);
        due("crumbs()", x.crumbs(), 0);
    }

    /** A WHEEL of its own sort at 21, which is told in its own way. */
    private static CheesePost toAsk() {
        CheesePost x = new CheesePost();
        x.wheel(4, 6);
        x.height(21, 33);
        x.fence(21, 8);
        x.terms(0, 77);
        x.image(0);
        return x;
    }

    private static void asks(CheesePost x, String law, int what, int want) {
        x.back(0);
        due("law() of " + law, law(x, law), 0);
        x.force(0);
        due(law, x.asks(21, 0, 7, what), want);
    }

    /** On an object of its own: no more than 512 calls are promised to one. */
    private static void asks(String law, int what, int want) {
        asks(toAsk(), law, what, want);
    }

    private static void theLaws() {
        promise = 21;
        asks("shuts", 0, 1);
        asks("shuts", 1, 1);
        asks("shuts", 2, 1);
        asks("shuts", 3, 0);
        asks("eats", 3, 1);
        asks("eats", 2, 0);
        asks("slows x*10+y", 0, 52);
        asks("slows height", 0, 33);
        asks("slows fence", 0, 8);
        asks("slows speed", 0, 7);
        asks("slows size", 0, 4);
        asks("slows ripe", 0, 6);
        asks("slows 5+hunger", 0, 4);
        asks("slows day", 0, 77);
        asks("slows 98+1", 0, 99);
        asks("slows 98+2", 0, 99);
        asks("slows 0-5", 0, 0);
        asks("costs 998+1", 1, 999);
        asks("costs 1000", 1, 999);
        asks("costs 1-2", 1, 0);
        asks("slows 3;slows 5;costs 9", 0, 5);
        asks("slows 3;slows 5 if x=4", 0, 3);
        asks("slows 3;slows 5/0", 0, 3);
        asks("slows 3;slows 5%0", 0, 3);
        asks("slows 3;slows 5 if 1/0=1", 0, 3);
        asks("slows 3;slows 5 if not 1/0=1", 0, 3);
        asks("slows 5 if 1=1 or 1/0=1", 0, 5);
        asks("slows 5 if 1=2 or 1/0=1", 0, 1);
        asks("slows 5 if 1/0=1 or 1=1", 0, 1);
        asks("slows 5 if not(1=2 and 1/0=1)", 0, 5);
        asks("slows 5 if 1=1 and 1/0=1", 0, 1);
        asks("slows 5 if 1=1 or 1=1 and 1/0=1", 0, 5);
        asks("slows 5 if not not not 1=2", 0, 5);
        asks("slows 5 if not 1=1 and 1=1", 0, 1);
        asks("slows 5 if not 1=2 and 1=1", 0, 5);
        asks("slows 5 if not 1=1 or 1=1", 0, 5);
        asks("slows 5 if not 1=2 or 1/0=1", 0, 5);
        asks("slows 5 if (1=2 or 1=1) and (1=1 and 2=2 or 1=2)", 0, 5);
        asks("slows 5 if (1=2 or 1=2 or 3=3) and not (1=1 and 2=2 and 1=2)", 0, 5);
        CheesePost x = toAsk();
        for (int i = 0; i < 30; i++) asks(x, "slows 4" + many("+1-1", 20) + " if 1=1 and 2=2", 0, 4);
        asks("slows 5 if 1<2 and 2>1 and not 2<2 and not 2>2", 0, 5);
        asks("slows 7-2-1", 0, 4);
        asks("slows 40/5/2", 0, 4);
        asks("slows 2+3*4", 0, 14);
        asks("slows [2+3]*4", 0, 20);
        asks("slows 9+[0-7]/2", 0, 6);
        asks("slows 9+[0-7]%4", 0, 6);
        asks("slows 9+7%[0-4]", 0, 12);
        asks("slows 1000*1000*1000/1000/1000/100", 0, 10);
        asks("slows [1000*1000*1000+1]/1000", 0, 1);
        asks("slows [0-1000*1000*1000]*0+4", 0, 4);
        asks("slows [0-1000*1000*1000-1]*0+4", 0, 1);
        asks("shuts;shuts if 1=2", 2, 1);
        asks("shuts if 1=2;shuts if 2=2;shuts if 1/0=0", 2, 1);
        x = toAsk();
        x.house(21, 9);
        law(x, "slows 5+hunger");
        x.force(0);
        due("hunger of a house", x.asks(21, 0, 7, 0), 14);
        x.force(-1);
        due("asks without a law", x.asks(21, 0, 7, 2), 0);
        due("asks(80, ..)", x.asks(80, 0, 7, 0), -1);
        due("asks(-1, ..)", x.asks(-1, 0, 7, 0), -1);
        due("asks(.., 1, ..)", x.asks(1, 1, 7, 0), -1);
        due("asks(.., -1, ..)", x.asks(1, -1, 7, 0), -1);
        due("asks(speed 100)", x.asks(1, 0, 100, 0), -1);
        due("asks(speed -1)", x.asks(1, 0, -1, 0), -1);
        due("asks(what 4)", x.asks(1, 0, 1, 4), -1);
        due("asks(what -1)", x.asks(1, 0, 1, -1), -1);
        due("asks(speed 0)", x.asks(1, 0, 0, 0), 1);
        due("asks(speed 99)", x.asks(1, 0, 99, 0), 1);
        promise = 20;
        CheesePost z = new CheesePost();
        refused(z, "force(0)", z.force(0), -2);
        answered(z, "force(-1)", z.force(-1), -1);
        refused(z, "force(-2)", z.force(-2), -2);
        law(z, "shuts");
        law(z, "eats");
        answered(z, "force(1)", z.force(1), -1);
        answered(z, "force(0)", z.force(0), 1);
        refused(z, "force(2)", z.force(2), -2);
        answered(z, "force(-1)", z.force(-1), 0);
        due("count(15)", z.count(15), -1);
        promise = 16;
        for (int i = 2; i < 6; i++) due("law()", law(z, "shuts"), i);
        lawFaultStays(z);
    }

    private static void lawFaultStays(CheesePost z) {
        due("orders() of wait!", orders(z, "wait!"), -6);
        due("fault()", z.fault(), 4);
        refused(z, "law(), the seventh", law(z, "nonsense"), -5);
        promise = 18;
        due("fault() of a text not read", z.fault(), 4);
        due("count(9)", z.count(9), 0);
        due("orders() of wait", orders(z, "wait"), 1);
        due("fault() behind a good one", z.fault(), -1);
    }

    private static void theLimitsOfTexts() {
        promise = 16;
        lawFault("", 0);
        lawFault("   ", 3);
        lawFault("shuts", -1);
        lawFault("  shuts  ", -1);
        lawFault("shuts;", 6);
        lawFault("shuts ; ", 8);
        lawFault(";shuts", 0);
        lawFault("Shuts", 0);
        lawFault("shuts\t", 5);
        lawFault("shutsif 1=1", 0);
        lawFault("shuts if1=1", -1);
        lawFault("slows", 5);
        lawFault("slows 1000", -1);
        lawFault("slows 00001000", -1);
        lawFault("slows 1001", 6);
        lawFault("slows 99999999999999999999", 6);
        lawFault("slows -1", 6);
        lawFault("slows 1 2", 8);
        lawFault("slows 3x", 7);
        lawFault("slows wheels", 6);
        lawFault("slows [1", 8);
        lawFault("slows [1)", 8);
        lawFault("slows 1+", 8);
        lawFault("slows 1 if", 10);
        lawFault("slows 1 if 1", 12);
        lawFault("slows 1 if 1<", 13);
        lawFault("slows 1 if 1<2<3", 14);
        lawFault("slows 1 if (1<2", 15);
        lawFault("slows 1 if (1<2]", 15);
        lawFault("slows 1 if (1)<2", 13);
        lawFault("slows 1 if 1<2 or", 17);
        lawFault("slows 1 if 1<2 if 1<2", 15);
        lawFault("slows 1 times 2", 8);
        lawFault("slows 1 if (1<2)+1=2", 16);
        lawFault("wait", 0);
        lawFault(many("eats;", 11) + "eats", -1);
        lawFault(many("eats;", 12) + "eats", 60);
        lawFault(many("eats;", 12) + " eats", 61);
        lawFault(many("eats;", 12), 60);
        lawFault("slows 1" + many("+1", 49), -1);
        lawFault("slows 1" + many("+1", 50), 106);
        lawFault("slows 1" + many("+1", 48) + ";eats if x=1", 114);
        lawFault("slows " + many("[", 8) + "1" + many("]", 8), -1);
        lawFault("slows " + many("[", 9) + "1" + many("]", 9), 14);
        lawFault("eats if " + many("(", 8) + "1=1" + many(")", 8), -1);
        lawFault("eats if " + many("(", 9) + "1=1" + many(")", 9), 16);
        lawFault("eats if " + many("(", 4) + many("[", 4) + "1" + many("]", 4) + "=1" + many(")", 4), -1);
        lawFault("eats if " + many("(", 4) + many("[", 5) + "1" + many("]", 5) + "=1" + many(")", 4), 16);
        lawFault("slows [1]+[[1]+[1]]", -1);
        lawFault(many("!", 400), 0);
        lawFault("eats" + many("(", 396), 4);
        CheesePost twice = new CheesePost();
        due("law() of brackets left open", law(twice, "slows " + many("[", 8) + "1]]]"), -6);
        due("fault()", twice.fault(), 18);
        due("law() of as many closed", law(twice, "slows " + many("[", 8) + "1" + many("]", 8)), 0);
        due("law() of 51 parts", law(twice, "slows 1" + many("+1", 50)), -6);
        due("law() of 50 parts", law(twice, "slows 1" + many("+1", 49)), 1);
        lawFault("eats if " + many("not ", 97) + "1=1", -1);
        lawFault("eats if " + many("not ", 98), 400);
        promise = 17;
        ordersFault("", 0);
        ordersFault("  ", 2);
        ordersFault("wait times 20", -1);
        ordersFault("wait times 21", 11);
        ordersFault("wait times 0", 11);
        ordersFault("wait times", 10);
        ordersFault("wait times day", 11);
        ordersFault("wait if day=0 times 2", 14);
        ordersFault("wait times 2 if day=0", -1);
        ordersFault("wait 1", 5);
        ordersFault("mend 1", 6);
        ordersFault("mend 1 from 2", 7);
        ordersFault("mend 1 by 2", -1);
        ordersFault("send 1 from 1 with", 14);
        ordersFault("send 1 from 1 toward 1 by", 23);
        ordersFault("send x from 1 toward 1 with 1", 5);
        ordersFault("mend height by 1", 5);
        ordersFault("mend wheels+fences+day+done+came+last by 1", -1);
        ordersFault("shuts", 0);
        ordersFault(many("wait;", 11) + "wait", -1);
        ordersFault(many("wait;", 12) + "wait", 60);
        ordersFault("mend 1" + many("+1", 48) + " by 1 times 1", -1);
        ordersFault("mend 1" + many("+1", 48) + " by 1 if 1=1", 111);
        ordersFault("mend " + many("[", 9), 13);
    }

    private static void theOrders() {
        promise = 17;
        CheesePost x = new CheesePost();
        x.dairy(3);
        x.wheel(2, 0);
        x.wheel(2, 0);
        x.house(35, 5);
        answered(x, "three kinds", orders(x, "mend 1 by 9;wait times 3;send 0 from 0 toward 2 with 5"), 5);
        due("stopped()", x.stopped(), -1);
        due("at(1, 1)", x.at(1, 1), 9);
        due("count(16)", x.count(16), 3);
        due("of(0, 2)", x.of(0, 2), 1);
        due("came(0, 0)", x.came(0, 0), 1);
        due("count(8)", x.count(8), 1);
        answered(x, "wheels, fences", orders(x, "mend 40 by wheels;mend 41 by fences"), 2);
        due("at(40, 1)", x.at(40, 1), 1);
        due("at(41, 1)", x.at(41, 1), 2);
        answered(x, "done, last, came ahead", orders(x, "mend 50 by 1+last;mend 51 by done+4;mend 52 by 3-came"), 3);
        due("at(50, 1)", x.at(50, 1), 0);
        due("at(51, 1)", x.at(51, 1), 5);
        due("at(52, 1)", x.at(52, 1), 3);
        answered(x, "last, came behind", orders(x, "send 1 from 0 toward 2 with 5;mend 60 by last-30;mend 61 by came+7"), 3);
        due("at(60, 1)", x.at(60, 1), 5);
        due("at(61, 1)", x.at(61, 1), 8);
        answered(x, "not so", orders(x, "wait if day=4"), 0);
        answered(x, "broken if", orders(x, "wait if 1/0=1"), 0);
        answered(x, "asked each time", orders(x, "wait times 9 if day<5"), 2);
        due("count(16)", x.count(16), 5);
        answered(x, "not run, sums not asked", orders(x, "mend 1/0 by 1 if 1=2"), 0);
        // An eaten wheel does not count as come.
        CheesePost z = new CheesePost();
        z.dairy(3);
        z.wheel(2, 0);
        z.house(35, 5);
        law(z, "eats if hunger=5");
        z.force(0);
        answered(z, "eaten", orders(z, "send 0 from 0 toward 2 with 5;mend 1 by came;mend 2 by last/5"), 3);
        due("at(1, 1)", z.at(1, 1), 0);
        due("at(2, 1)", z.at(2, 1), 7);
        due("came(0, 1)", z.came(0, 1), 1);
    }

    private static void cannot(CheesePost x, String text, int which) {
        refused(x, text, orders(x, text), -3);
        due("stopped() of " + text, x.stopped(), which);
        due("fault() of " + text, x.fault(), -1);
        due("count(16)", x.count(16), 0);
        due("count(7)", x.count(7), 0);
        due("count(3)", x.count(3), 0);
        due("count(8)", x.count(8), 0);
        due("count(9)", x.count(9), 0);
        due("came(0, 0)", x.came(0, 0), 0);
    }

    private static void ordersGoneBackTo() {
        promise = 17;
        CheesePost x = new CheesePost();
        x.dairy(3);
        x.wheel(2, 0);
        x.house(35, 5);
        String first = "wait;mend 5 by 5;send 0 from 0 toward 2 with 5;";
        cannot(x, first + "send 0 from 0 toward 2 with 5", 3);
        cannot(x, first + "wait times 1;mend 80 by 1", 4);
        cannot(x, first + "mend 0-1 by 1", 3);
        cannot(x, first + "mend 1 by 10", 3);
        cannot(x, first + "mend 1 by 0-1", 3);
        cannot(x, first + "mend 1 by 1/0", 3);
        cannot(x, "wait;send 1 from 0 toward 2 with 5", 1);
        cannot(x, "wait;send 0 from 1 toward 2 with 5", 1);
        cannot(x, "wait;send 0 from 0 toward 4 with 5", 1);
        cannot(x, "wait;send 0 from 0 toward 2 with 0", 1);
        cannot(x, "wait;send 0 from 0 toward 2 with 10", 1);
        cannot(x, "wait;send 0-1 from 0 toward 2 with 1", 1);
        cannot(x, "wait times 20;wait times 20;wait times 20;wait times 20;wait times 20", 4);
        promise = 19;
        due("orders() that can be", orders(x, "wait"), 1);
        due("stopped()", x.stopped(), -1);
        orders(x, "mend 80 by 1");
        due("stopped()", x.stopped(), 0);
        orders(x, "wrong");
        due("stopped() of one not run", x.stopped(), -1);
        x.terms(0, 98);
        due("to DAY 99", orders(x, "wait"), 1);
        due("to DAY 100", orders(x, "wait"), -3);
        due("count(16)", x.count(16), 99);
        // What ORDERS that fail push out of what can be undone is there again.
        CheesePost z = new CheesePost();
        z.dairy(3);
        for (int i = 0; i < 8; i++) z.wheel(2, 0);
        for (int i = 0; i < 8; i++) z.send(160 * i + 25);
        for (int i = 7; i >= 4; i--) due("undo()", z.undo(), 160 * i + 25);
        due("all again", orders(z, "send 4 from 0 toward 0 with 1;send 5 from 0 toward 0 with 1;wait if 1/0=1;"
                + "send 6 from 0 toward 0 with 1;send 7 from 0 toward 0 with 1;send 0 from 0 toward 0 with 1"), -3);
        due("count(8)", z.count(8), 4);
        for (int i = 3; i >= 0; i--) due("undo()", z.undo(), 160 * i + 25);
        due("undo()", z.undo(), -3);
    }

    private static void rolled(CheesePost x, String how, int[] from, int... want) {
        for (int what = 0; what < want.length; what++) {
            due("roll, " + how + ", what " + what, x.roll(from[0], from[1], from[2], from[3], what), want[what]);
        }
    }

    private static void rolling() {
        CheesePost x = new CheesePost();
        promise = 22;
        x.wheel(2, 0);
        x.wheel(9, 0);
        int[] down = {3, 2, 5, 0};
        rolled(x, "a bare slope", down, 103, 3, 10, 85, 0, 0);
        // 3 up is out of the meadow; of alike PULLS right ahead of left; KEEP turns it.
        CheesePost flat = new CheesePost();
        flat.wheel(1, 0);
        for (int i = 0; i < 80; i++) flat.height(i, 50);
        flat.terms(1, 0);
        rolled(flat, "flat, lowest direction", new int[] {44, 3, 3, 0}, 28, 0, 2, 1, 0, 0);
        rolled(flat, "flat, at the top right", new int[] {2, 3, 2, 0}, 3, 0, 1, 1, 0, 0);
        flat.terms(1, 1);
        rolled(flat, "flat, kept", new int[] {44, 3, 3, 0}, 42, 0, 2, 1, 0, 0);
        rolled(flat, "speed 0", new int[] {44, 3, 0, 0}, 44, 0, 0, 0, 0, 0);
        rolled(flat, "speed 1", new int[] {44, 3, 1, 0}, 44, 0, 0, 1, 0, 0);
        // To and fro between x 4 and x 0: behind 60 STEPS at x 0.
        law(flat, "slows 0;shuts if not y=5 or x>4");
        flat.force(0);
        rolled(flat, "at most 60", new int[] {44, 3, 1, 0}, 40, 4, 60, 1, 0, 0);
        due("path 59", flat.path(44, 3, 1, 0, 59), 41);
        due("path 60", flat.path(44, 3, 1, 0, 60), 40);
        due("path 61", flat.path(44, 3, 1, 0, 61), -1);
        flat.house(40, 9);
        rolled(flat, "a house", new int[] {44, 3, 1, 0}, 40, 2, 4, 1, 0, 0);
        law(flat, "shuts if speed=5;slows 2 if speed=6;slows 99 if speed=4");
        flat.force(1);
        rolled(flat, "all shut", new int[] {44, 3, 5, 0}, 44, 0, 0, 5, 0, 0);
        rolled(flat, "slowed here with the old speed", new int[] {44, 3, 6, 0}, 43, 0, 1, 4, 0, 0);
        law(flat, "shuts if x=3");
        flat.force(2);
        rolled(flat, "shut to the left, so up", new int[] {44, 3, 3, 0}, 28, 0, 2, 1, 0, 0);
        // Faster than 99 it can't be.
        CheesePost steep = new CheesePost();
        steep.wheel(1, 0);
        steep.height(0, 99);
        steep.height(8, 0);
        steep.house(8, 1);
        rolled(steep, "99 at most", new int[] {0, 2, 60, 0}, 8, 2, 1, 99, 0, 0);
        fences(x);
        wrongRolls(x);
    }

    private static void fences(CheesePost x) {
        int[] down = {3, 2, 5, 0};
        x.fence(11, 2);
        rolled(x, "14 times 2 against 20", down, 103, 3, 10, 83, 1, 0);
        x.fence(11, 3);
        rolled(x, "14 times 2 against 30", down, 3, 1, 0, 5, 0, 0);
        rolled(x, "15 times 2 against 30", new int[] {3, 2, 6, 0}, 103, 3, 10, 83, 1, 0);
        x.fence(19, 1);
        x.fence(75, 9);
        rolled(x, "three", new int[] {3, 2, 6, 1}, 103, 3, 10, 73, 3, 0);
        promise = 24;
        due("broken 0", x.broken(3, 2, 6, 1, 0), 11);
        due("broken 1", x.broken(3, 2, 6, 1, 1), 19);
        due("broken 2", x.broken(3, 2, 6, 1, 2), 75);
        due("broken 3", x.broken(3, 2, 6, 1, 3), -1);
        due("broken -1", x.broken(3, 2, 6, 1, -1), -1);
        due("at(11, 1) as it was", x.at(11, 1), 3);
        promise = 22;
        // A broken FENCE is broken but once; SPEED is 1 at least behind it.
        CheesePost bowl = new CheesePost();
        bowl.wheel(9, 0);
        for (int i = 0; i < 80; i++) bowl.height(i, 99);
        bowl.height(0, 50);
        bowl.height(1, 50);
        bowl.fence(1, 9);
        bowl.terms(1, 0);
        rolled(bowl, "to and fro", new int[] {0, 1, 20, 0}, 0, 0, 10, 1, 1, 0);
        bowl.fence(1, 9);
        law(bowl, "slows 0;slows 1 if fence>0");
        bowl.force(0);
        rolled(bowl, "fence as it stands told", new int[] {0, 1, 15, 0}, 1, 0, 11, 1, 1, 0);
        bowl.height(0, 51);
        rolled(bowl, "1 at least", new int[] {0, 1, 9, 0}, 1, 0, 1, 1, 1, 0);
    }

    private static void wrongRolls(CheesePost x) {
        promise = 22;
        int[][] wrong = {{-1, 2, 5, 0}, {80, 2, 5, 0}, {3, -1, 5, 0}, {3, 4, 5, 0}, {3, 2, -1, 0}, {3, 2, 100, 0},
            {3, 2, 5, -1}, {3, 2, 5, 2}};
        for (int[] w : wrong) {
            due("roll of a wrong number", x.roll(w[0], w[1], w[2], w[3], 0), -1);
            due("path of a wrong number", x.path(w[0], w[1], w[2], w[3], 0), -1);
            due("broken of a wrong number", x.broken(w[0], w[1], w[2], w[3], 0), -1);
        }
        due("roll what 6", x.roll(3, 2, 5, 0, 6), -1);
        due("roll what -1", x.roll(3, 2, 5, 0, -1), -1);
        due("roll with 99", x.roll(3, 2, 99, 0, 1), 3);
        promise = 23;
        CheesePost z = new CheesePost();
        z.wheel(1, 1);
        for (int i = 0; i < 10; i++) due("path " + i, z.path(3, 2, 5, 0, i), 3 + 8 * i);
        due("path 10", z.path(3, 2, 5, 0, 10), 103);
        due("path 11", z.path(3, 2, 5, 0, 11), -1);
        due("path -1", z.path(3, 2, 5, 0, -1), -1);
        z.fence(11, 9);
        due("path 0 of one that stays", z.path(3, 2, 5, 0, 0), 3);
        due("path 1 of one that stays", z.path(3, 2, 5, 0, 1), -1);
    }

    private static void slipping() {
        CheesePost x = new CheesePost();
        promise = 25;
        x.wheel(2, 0);
        x.dairy(67);
        // From y 8: down, down. A SLIP goes right: from y 8 down again at x 4, from y 9 on to x 7 and down.
        due("slips(25, 0, 0)", x.slips(25, 0, 0), 1);
        due("slips(25, 1, 0)", x.slips(25, 1, 0), 3);
        due("slips(25, 1, 1)", x.slips(25, 1, 1), 3);
        due("slips(25, 1, 2)", x.slips(25, 1, 2), 103);
        due("slips(25, 1, 3)", x.slips(25, 1, 3), 1);
        promise = 26;
        due("ends(25, 1, 103)", x.ends(25, 1, 103), 1);
        due("ends(25, 1, 104)", x.ends(25, 1, 104), 1);
        due("ends(25, 1, 107)", x.ends(25, 1, 107), 1);
        due("ends(25, 1, 0)", x.ends(25, 1, 0), 0);
        due("ends(25, 1, 80)", x.ends(25, 1, 80), -1);
        due("ends(25, 1, 99)", x.ends(25, 1, 99), -1);
        due("ends(25, 1, 108)", x.ends(25, 1, 108), -1);
        due("ends(25, 1, -1)", x.ends(25, 1, -1), -1);
        due("ends(25, 3, 1)", x.ends(25, 3, 1), -1);
        due("ends(25, -1, 1)", x.ends(25, -1, 1), -1);
        due("ends(20, 1, 1)", x.ends(20, 1, 1), -1);
        promise = 25;
        due("slips(25, 3, 0)", x.slips(25, 3, 0), -1);
        due("slips(25, -1, 0)", x.slips(25, -1, 0), -1);
        due("slips(25, 0, 4)", x.slips(25, 0, 4), -1);
        due("slips(25, 0, -1)", x.slips(25, 0, -1), -1);
        due("slips(20, 0, 0)", x.slips(20, 0, 0), -1);
        due("slips(65, 0, 0)", x.slips(65, 0, 0), -1);
        due("slips(185, 0, 0)", x.slips(185, 0, 0), -1);
        due("slips(-1, 0, 0)", x.slips(-1, 0, 0), -1);
        due("slips(1281, 0, 0)", x.slips(1281, 0, 0), -1);
        CheesePost full = new CheesePost();
        for (int i = 0; i < 8; i++) full.wheel(1, 0);
        for (int i = 0; i < 4; i++) full.dairy(75);
        due("slips(1279, 0, 0), the last of all", full.slips(1279, 0, 0), 1);
        due("fits(-1), all", full.fits(-1), 1152);
        due("fits(1151)", full.fits(1151), 1279);
        // A STEP that it does not make can be slipped in; where no next DIRECTION is, none can.
        CheesePost z = new CheesePost();
        z.wheel(1, 0);
        z.dairy(72);
        z.fence(73, 9);
        law(z, "shuts if y=8");
        z.force(0);
        due("slips of a dead end", z.slips(25, 1, 0), 2);
        due("slips of a dead end, most", z.slips(25, 1, 2), 72);
        due("slips of a dead end, there", z.ends(25, 1, 100), 1);
        law(z, "shuts");
        z.force(1);
        due("none to slip to", z.slips(25, 2, 0), 1);
    }

    private static void sending() {
        CheesePost x = new CheesePost();
        promise = 27;
        refused(x, "send(0)", x.send(0), -1);
        refused(x, "send(-1)", x.send(-1), -1);
        refused(x, "send(1280)", x.send(1280), -1);
        refused(x, "send(1281)", x.send(1281), -1);
        refused(x, "send(1279)", x.send(1279), -2);
        refused(x, "send(25)", x.send(25), -2);
        x.wheel(9, 1);
        refused(x, "send(25), no dairy", x.send(25), -2);
        x.dairy(3);
        refused(x, "send(65)", x.send(65), -2);
        refused(x, "send(30)", x.send(30), -1);
        x.fence(11, 9);
        x.house(27, 4);
        law(x, "eats if fence=5 and ripe=1");
        x.force(0);
        x.fence(27, 5);
        answered(x, "send(25)", x.send(25), 27);
        promise = 29;
        due("came(0, 0)", x.came(0, 0), 0);
        due("came(0, 1), eaten as it stood", x.came(0, 1), 1);
        due("came(0, 2)", x.came(0, 2), -1);
        due("came(0, -1)", x.came(0, -1), -1);
        due("came(1, 0)", x.came(1, 0), -1);
        due("came(-1, 0)", x.came(-1, 0), -1);
        due("at(11, 1)", x.at(11, 1), 0);
        due("at(27, 1)", x.at(27, 1), 0);
        due("of(0, 2)", x.of(0, 2), 1);
        refused(x, "send(25) again", x.send(25), -3);
        due("roll of one gone", x.roll(3, 2, 5, 0, 0), 27);
        promise = 28;
        x.fence(50, 7);
        x.wheel(9, 2);
        x.send(185);
        due("came(0, 0)", x.came(0, 0), 1);
        answered(x, "undo()", x.undo(), 185);
        due("came(0, 0)", x.came(0, 0), 0);
        due("came(0, 1)", x.came(0, 1), 1);
        due("of(1, 2)", x.of(1, 2), 0);
        due("at(50, 1)", x.at(50, 1), 7);
        answered(x, "undo()", x.undo(), 25);
        due("of(0, 2)", x.of(0, 2), 0);
        due("came(0, 1)", x.came(0, 1), 0);
        due("at(11, 1)", x.at(11, 1), 9);
        due("at(27, 1)", x.at(27, 1), 5);
        due("at(50, 1), told since", x.at(50, 1), 0);
        refused(x, "undo()", x.undo(), -3);
        CheesePost h = new CheesePost();
        h.dairy(3);
        h.house(11, 0);
        h.house(72, 9);
        for (int i = 0; i < 4; i++) h.wheel(1, i / 2);
        law(h, "eats if ripe=1");
        h.force(0);
        for (int i = 0; i < 4; i++) h.send(160 * i + 25);
        int[][] counted = {{2, 2}, {2, 1}, {2, 0}, {1, 0}, {0, 0}};
        for (int i = 0; i < 5; i++) {
            due("came(0, 0) behind undone " + i, h.came(0, 0), counted[i][0]);
            due("came(0, 1) behind undone " + i, h.came(0, 1), counted[i][1]);
            due("count(3) behind undone " + i, h.count(3), 4 - i);
            h.undo();
        }
        CheesePost z = new CheesePost();
        z.dairy(3);
        for (int i = 0; i < 8; i++) z.wheel(1, 1);
        for (int i = 0; i < 8; i++) due("send", z.send(160 * i + 21), 103);
        due("count(8)", z.count(8), 8);
        for (int i = 7; i >= 0; i--) due("undo", z.undo(), 160 * i + 21);
        // The ninth can't be undone: GONE can come back by undo, never by itself.
        for (int i = 0; i < 8; i++) z.send(160 * i + 21);
        z.undo();
        z.send(160 * 7 + 22);
        due("count(8)", z.count(8), 8);
        due("undo", z.undo(), 160 * 7 + 22);
    }

    private static void aiming() {
        CheesePost x = new CheesePost();
        promise = 30;
        x.house(35, 3);
        due("aim(0, 0) without throws", x.aim(0, 0), 0);
        due("aim(0, 1) without throws", x.aim(0, 1), -1);
        x.wheel(2, 0);
        x.wheel(3, 7);
        x.dairy(3);
        x.dairy(11);
        due("aim(0, 0)", x.aim(0, 0), 144);
        due("aim(0, 1)", x.aim(0, 1), 1);
        due("aim(0, 2)", x.aim(0, 2), 1);
        due("aim(0, 3)", x.aim(0, 3), 4);
        law(x, "costs 20-size-y-speed");
        x.force(0);
        due("aim(0, 1), the cheapest", x.aim(0, 1), 160 + 40 + 9);
        due("aim(0, 2)", x.aim(0, 2), 7);
        due("aim(0, 3)", x.aim(0, 3), 3);
        law(x, "eats if ripe=7");
        x.force(1);
        due("aim(0, 0), one eaten", x.aim(0, 0), 72);
        due("aim(0, 1), one eaten", x.aim(0, 1), 1);
        due("aim(1, 0)", x.aim(1, 0), -1);
        due("aim(-1, 0)", x.aim(-1, 0), -1);
        due("aim(0, 4)", x.aim(0, 4), -1);
        due("aim(0, -1)", x.aim(0, -1), -1);
        x.send(1);
        due("aim(0, 0), gone and eaten", x.aim(0, 0), 0);
        promise = 31;
        CheesePost z = new CheesePost();
        due("sure(0, 0, 0)", z.sure(0, 0, 0), -1);
        z.house(19, 0);
        due("sure without throws", z.sure(0, 0, 0), -1);
        z.wheel(9, 0);
        z.dairy(3);
        law(z, "eats");
        z.force(0);
        due("sure, eaten or not", z.sure(0, 0, 0), 1);
        z.dairy(11);
        // From 3 two STEPS, from 11 one: 1 of 3 ROWS, 1 of 2.
        due("sure(0, 1, 0)", z.sure(0, 1, 0), 41);
        due("sure(0, 1, 1)", z.sure(0, 1, 1), 1);
        due("sure(0, 1, 2)", z.sure(0, 1, 2), 2);
        due("sure(0, 2, 0)", z.sure(0, 2, 0), -1);
        due("sure(0, -1, 0)", z.sure(0, -1, 0), -1);
        due("sure(0, 0, 3)", z.sure(0, 0, 3), -1);
        due("sure(0, 0, -1)", z.sure(0, 0, -1), -1);
        z.house(0, 0);
        due("sure(1, 1, 0): none ends there", z.sure(1, 0, 0), -1);
    }

    private static void posting() {
        CheesePost x = new CheesePost();
        promise = 32;
        due("post(0)", x.post(0), 0);
        due("post(1)", x.post(1), 0);
        due("post(2)", x.post(2), 0);
        due("post(3)", x.post(3), -1);
        due("post(-1)", x.post(-1), -1);
        x.house(35, 3);
        x.house(37, 3);
        x.dairy(3);
        x.wheel(2, 4);
        x.wheel(2, 2);
        x.wheel(2, 9);
        law(x, "costs ripe*10;eats if ripe=9");
        x.force(0);
        x.letter(0, 5);
        x.letter(1, 99);
        x.letter(0, 7);
        x.letter(0, 6);
        due("post(0)", x.post(0), 13);
        due("post(1)", x.post(1), 60);
        due("post(2)", x.post(2), 2);
        due("post(3)", x.post(3), -1);
        due("post(4)", x.post(4), -1);
        due("post(5)", x.post(5), 0);
        due("post(6)", x.post(6), 1);
        due("post(7)", x.post(7), -1);
        x.burn();
        x.letter(0, 5);
        due("the least costs", x.post(3), 1);
        due("the least costs", x.post(1), 20);
        x.letter(0, 5);
        x.send(160 * 1 + 25);
        due("one is gone: the first letter goes", x.post(3), 0);
        due("one is gone: the second does not", x.post(4), -1);
        due("one is gone", x.post(0), 5);
        x.send(25);
        due("none is left", x.post(0), 0);
        due("none is left", x.post(2), 0);
        // Eight to eight: the WHEEL that alone breaks the FENCE is left for the one that needs it.
        CheesePost z = new CheesePost();
        z.dairy(0);
        z.dairy(7);
        z.house(32, 0);
        z.house(39, 0);
        z.fence(39, 9);
        for (int i = 0; i < 8; i++) z.wheel(i == 0 ? 9 : 1, 0);
        for (int i = 0; i < 8; i++) z.letter(i == 7 ? 1 : 0, 10);
        due("post(0) of eight", z.post(0), 80);
        due("post(2) of eight", z.post(2), 8);
        for (int i = 0; i < 7; i++) due("post(3 and " + i + ")", z.post(3 + i), i + 1);
        due("post(10)", z.post(10), 0);
        due("post(11)", z.post(11), -1);
    }

    private static void tracing() {
        CheesePost x = new CheesePost();
        promise = 33;
        for (int i = 1; i <= 8; i++) answered(x, "trace(79, 0)", x.trace(79, 0), i);
        refused(x, "trace(79, 0)", x.trace(79, 0), -5);
        refused(x, "trace(80, 0)", x.trace(80, 0), -1);
        refused(x, "trace(-1, 0)", x.trace(-1, 0), -1);
        refused(x, "trace(1, 2)", x.trace(1, 2), -1);
        refused(x, "trace(1, -1)", x.trace(1, -1), -1);
        promise = 34;
        due("forget()", x.forget(), 8);
        due("forget()", x.forget(), 0);
        due("count(6)", x.count(6), 0);
        promise = 35;
        due("fits(-1) without throws", x.fits(-1), 0);
        due("fits(0) without throws", x.fits(0), -1);
        x.wheel(1, 0);
        x.wheel(9, 0);
        x.dairy(3);
        x.fence(19, 3);
        due("fits(-1)", x.fits(-1), 72);
        due("fits(0)", x.fits(0), 1);
        due("fits(71)", x.fits(71), 199);
        due("fits(72)", x.fits(72), -1);
        due("fits(-2)", x.fits(-2), -1);
        x.trace(19, 1);
        due("fits(-1), broken", x.fits(-1), 36);
        due("fits(0), broken", x.fits(0), 161);
        x.trace(67, 1);
        due("fits(-1), a fence that is not", x.fits(-1), 0);
        x.forget();
        x.trace(19, 0);
        due("fits(-1), not broken", x.fits(-1), 36);
        due("fits(35), not broken", x.fits(35), 39);
        x.send(5);
        due("fits(-1), gone", x.fits(-1), 0);
        // CELLS far down are told from those far up.
        CheesePost z = new CheesePost();
        z.wheel(9, 0);
        z.dairy(56);
        z.fence(64, 1);
        z.trace(64, 1);
        z.trace(0, 0);
        due("fits(-1), broken at 64", z.fits(-1), 36);
        z.fence(72, 1);
        due("two broken", z.roll(56, 2, 1, 0, 4), 2);
        z.trace(72, 1);
        z.trace(8, 0);
        due("fits(-1), broken at 72", z.fits(-1), 36);
        z.trace(79, 1);
        due("fits(-1), not broken at 79", z.fits(-1), 0);
    }

    private static void walls() {
        CheesePost x = new CheesePost();
        promise = 36;
        x.wheel(1, 0);
        x.dairy(3);
        x.house(19, 0);
        x.house(12, 0);
        due("wall(25, 0, -1)", x.wall(25, 0, -1), 77);
        due("wall(25, 0, 0)", x.wall(25, 0, 0), 0);
        due("wall(25, 0, 3), not the dairy's", x.wall(25, 0, 3), 4);
        due("wall(25, 0, 9), not in the way", x.wall(25, 0, 9), 10);
        due("wall(25, 0, 10)", x.wall(25, 0, 10), 12);
        due("wall(25, 0, 76)", x.wall(25, 0, 76), 79);
        due("wall(25, 0, 77)", x.wall(25, 0, 77), -1);
        due("wall(25, 0, -2)", x.wall(25, 0, -2), -1);
        due("wall(25, 1, -1)", x.wall(25, 1, -1), 0);
        due("wall(25, 2, -1)", x.wall(25, 2, -1), -1);
        due("wall(25, -1, -1)", x.wall(25, -1, -1), -1);
        due("wall(20, 0, -1)", x.wall(20, 0, -1), -1);
        due("wall(185, 0, -1)", x.wall(185, 0, -1), -1);
        due("at(11, 1)", x.at(11, 1), 0);
        wallsUnderLaws(x);
        wallsThatAreBroken();
        x.send(25);
        due("wall of one gone", x.wall(25, 0, -1), -1);
    }

    /** A WALL is not told: a LAW's "fence" stays what it is without it. */
    private static void wallsUnderLaws(CheesePost x) {
        law(x, "shuts if fence=9");
        x.force(0);
        x.height(4, 80);
        due("no wall is shut by its being there", x.wall(25, 1, -1), 0);
        due("walls in the way alone matter", x.wall(25, 0, -1), 77);
        x.fence(11, 9);
        due("11 is shut by what is told there, a wall in its place or not", x.wall(25, 1, -1), 77);
        due("a wall on 11", x.wall(25, 1, 9), 11);
        x.fence(11, 4);
        law(x, "shuts if fence=4");
        x.force(1);
        due("a wall on 11 in place of a fence that shuts", x.wall(25, 1, 9), 11);
        due("as many as ahead", x.wall(25, 1, -1), 77);
        due("at(11, 1) behind it", x.at(11, 1), 4);
        due("count(7) behind it", x.count(7), 1);
        x.fence(11, 0);
        x.force(-1);
    }

    /** A WHEEL that is big enough breaks a WALL, and is slower behind it. */
    private static void wallsThatAreBroken() {
        CheesePost x = new CheesePost();
        x.wheel(9, 0);
        x.dairy(3);
        x.house(19, 0);
        x.house(12, 0);
        due("11 and 19 are broken through", x.wall(25, 0, -1), 79);
        law(x, "slows 9 if fence=9");
        x.force(0);
        x.height(19, 77);
        due("not slowed by what is not told", x.wall(25, 0, 10), 11);
        due("nor kept from breaking one on 19", x.wall(25, 0, -1), 79);
        x.fence(11, 9);
        due("slowed by what is told, a wall in its place too", x.wall(25, 0, -1), 0);
        x.fence(11, 0);
        x.height(19, 70);
        law(x, "shuts if speed<6 and y=2");
        x.force(1);
        due("a wall turns it by its SPEED", x.wall(25, 1, -1), 1);
        due("a wall on 11 turns it", x.wall(25, 1, 0), 11);
        due("the others do not", x.wall(25, 0, -1), 78);
        law(x, "eats if fence=9");
        x.force(2);
        due("eaten or not, it ends there", x.wall(25, 0, -1), 79);
    }

    private static void rinds() {
        CheesePost x = new CheesePost();
        promise = 37;
        due("share(96, 96, 96, 5)", x.share(96, 96, 96, 5), (96 + 96 * 5 + 96 * 25) % 97);
        due("share(0, 0, 0, 1)", x.share(0, 0, 0, 1), 0);
        due("share(97, ..)", x.share(97, 0, 0, 1), -1);
        due("share(-1, ..)", x.share(-1, 0, 0, 1), -1);
        due("share(.., 97, ..)", x.share(0, 97, 0, 1), -1);
        due("share(.., -1, ..)", x.share(0, 0, -1, 1), -1);
        due("share(.., 97, k)", x.share(0, 0, 97, 1), -1);
        due("share(.., 0)", x.share(1, 1, 1, 0), -1);
        due("share(.., 6)", x.share(1, 1, 1, 6), -1);
        promise = 38;
        int[] on = new int[6];
        for (int k = 1; k <= 5; k++) on[k] = x.share(17, 80, 61, k);
        for (int k = 1; k <= 5; k++) for (int m = 1; m <= 5; m++) for (int n = 1; n <= 5; n++) {
            boolean unlike = k != m && k != n && m != n;
            due("read " + k + m + n, x.read(k, on[k], m, on[m], n, on[n]), unlike ? 17 : -1);
        }
        due("read of rind 0", x.read(0, 1, 2, 1, 3, 1), -1);
        due("read of rind 6", x.read(1, 1, 2, 1, 6, 1), -1);
        due("read of 97", x.read(1, 97, 2, 1, 3, 1), -1);
        due("read of -1", x.read(1, 1, 2, -1, 3, 1), -1);
        due("read of 97", x.read(1, 1, 2, 1, 3, 97), -1);
        promise = 39;
        due("odd, none", x.odd(on[1], on[2], on[3], on[4], on[5]), 0);
        for (int k = 1; k <= 5; k++) {
            int[] lie = on.clone();
            lie[k] = (lie[k] + 50) % 97;
            due("odd " + k, x.odd(lie[1], lie[2], lie[3], lie[4], lie[5]), k);
        }
        due("odd, two lie", x.odd((on[1] + 1) % 97, (on[2] + 1) % 97, on[3], on[4], on[5]), -1);
        due("odd of 97", x.odd(1, 1, 1, 1, 97), -1);
        due("odd of -1", x.odd(-1, 1, 1, 1, 1), -1);
    }

    private static void replies() {
        CheesePost x = new CheesePost();
        promise = 40;
        refused(x, "reply(0, 1)", x.reply(0, 1), -2);
        refused(x, "reply(0, 10)", x.reply(0, 10), -1);
        x.house(1, 1);
        x.house(2, 1);
        x.house(17, 1);
        answered(x, "reply(0, 9)", x.reply(0, 9), 0);
        answered(x, "reply(0, 6)", x.reply(0, 6), 9);
        refused(x, "reply(0, -1)", x.reply(0, -1), -1);
        refused(x, "reply(3, 1)", x.reply(3, 1), -2);
        refused(x, "reply(-1, 1)", x.reply(-1, 1), -2);
        promise = 41;
        due("trips(0, 0) without a dairy", x.trips(0, 0), -1);
        x.dairy(0);
        due("trips(0, 0)", x.trips(0, 0), 1);
        due("trips(0, 1)", x.trips(0, 1), 2);
        due("trips(0, 2)", x.trips(0, 2), 1);
        due("trips(0, 3)", x.trips(0, 3), -1);
        due("trips(0, -1)", x.trips(0, -1), -1);
        due("trips(1, 0)", x.trips(1, 0), -1);
        due("trips(-1, 0)", x.trips(-1, 0), -1);
        x.reply(0, 2);
        x.reply(1, 6);
        x.reply(2, 6);
        // HOUSES at (1, 0), (2, 0), (1, 2), LOAD 10: 0 with 1 is 4 and 6, 0 with 2 is 6 and 4.
        due("trips(0, 0)", x.trips(0, 0), 2);
        due("trips(0, 1)", x.trips(0, 1), 10);
        due("trips(0, 2), the lowest", x.trips(0, 2), 3);
        x.reply(0, 6);
        x.reply(1, 4);
        x.reply(2, 4);
        x.terms(2, 9);
        // 6 alone, or 8 together: 2 and 8.
        due("trips(0, 1)", x.trips(0, 1), 10);
        due("trips(0, 2)", x.trips(0, 2), 1);
        x.terms(2, 14);
        due("trips(0, 0), all at once", x.trips(0, 0), 1);
        due("trips(0, 1), all at once", x.trips(0, 1), 8);
        due("trips(0, 2), all at once", x.trips(0, 2), 7);
        x.terms(2, 5);
        due("trips(0, 0), too heavy", x.trips(0, 0), -1);
        due("trips(0, 2), too heavy", x.trips(0, 2), -1);
        x.reply(0, 0);
        due("trips(0, 0)", x.trips(0, 0), 2);
        due("trips(0, 1)", x.trips(0, 1), 10);
        due("trips(0, 2), of the lowest that has some", x.trips(0, 2), 2);
        x.reply(1, 0);
        x.reply(2, 0);
        due("trips(0, 0), none", x.trips(0, 0), 0);
        due("trips(0, 1), none", x.trips(0, 1), 0);
        due("trips(0, 2), none", x.trips(0, 2), 0);
    }

    private static void summers() {
        CheesePost x = new CheesePost();
        promise = 43;
        for (int end = -1; end <= 108; end++) due("drawn(" + end + ") ahead of any", x.drawn(end), -1);
        x.summer(0, 31);
        x.summer(-1, 1);
        due("drawn(0), one refused is none", x.drawn(0), -1);
        x.image(0);
        x.summer(0, 1);
        due("drawn(0), one without throws", x.drawn(0), 0);
        due("drawn(79)", x.drawn(79), 0);
        due("drawn(100)", x.drawn(100), 0);
        due("drawn(107)", x.drawn(107), 0);
        x.back(0);
        due("drawn(0), an image ahead of any does not undo it", x.drawn(0), 0);
        due("drawn(80)", x.drawn(80), -1);
        due("drawn(99)", x.drawn(99), -1);
        due("drawn(108)", x.drawn(108), -1);
        due("drawn(-1)", x.drawn(-1), -1);
        promise = 42;
        answered(x, "summer without wheels", x.summer(5, 30), 0);
        x.wheel(1, 0);
        answered(x, "summer without dairies", x.summer(5, 30), 0);
        due("how many ended without dairies", endedIn(x), 0);
        CheesePost bare = new CheesePost();
        bare.dairy(3);
        answered(bare, "summer with a dairy alone", bare.summer(5, 30), 0);
        due("how many ended with a dairy alone", endedIn(bare), 0);
        refused(x, "summer(-1, 1)", x.summer(-1, 1), -1);
        refused(x, "summer(1000001, 1)", x.summer(1000001, 1), -1);
        refused(x, "summer(1, 0)", x.summer(1, 0), -1);
        refused(x, "summer(1, 31)", x.summer(1, 31), -1);
        x.dairy(3);
        x.terms(3, 0);
        answered(x, "summer(1000000, 30)", x.summer(1000000, 30), 0);
        due("drawn(103)", x.drawn(103), 30);
        x.house(35, 1);
        law(x, "eats");
        x.force(0);
        answered(x, "summer, eaten too", x.summer(0, 7), 7);
        due("drawn(35)", x.drawn(35), 7);
        due("drawn(103)", x.drawn(103), 0);
        due("came(0, 1), on paper", x.came(0, 1), 0);
        x.summer(0, 31);
        due("drawn(35), a refused one is not kept", x.drawn(35), 7);
        // Once broken, a FENCE stays so in it; the next summer has it again.
        x.fence(75, 9);
        x.wheel(9, 0);
        x.fence(11, 1);
        int arrived = x.summer(3, 30);
        due("summer with a fence", arrived + x.drawn(3), 30);
        due("summer with a fence again", x.summer(3, 30), arrived);
        due("at(11, 1)", x.at(11, 1), 1);
        drawsByHand();
    }

    private static int endedIn(CheesePost x) {
        int ended = 0;
        for (int end = 0; end < 108; end++) ended += Math.max(0, x.drawn(end));
        return ended;
    }

    /** One THROW of a SUMMER, its DRAWS made here. */
    private static void drawsByHand() {
        for (int seed = 0; seed < 40; seed++) {
            CheesePost x = new CheesePost();
            x.wheel(1, 0);
            x.wheel(1, 0);
            x.send(25);
            x.dairy(75);
            x.dairy(73);
            x.dairy(78);
            x.terms(3, 5);
            law(x, "shuts if y=8;slows 0");
            x.force(0);
            x.height(72, 99);
            x.height(79, 99);
            long s = seed;
            int[] of = {2, 3, 4, 9};
            int[] drew = new int[4];
            for (int i = 0; i < 4; i++) {
                s = (s * 1103 + 12345) % 1000003;
                drew[i] = (int) (s % of[i]);
            }
            int cell = new int[] {75, 73, 78}[drew[1]];
            int direction = drew[2];
            int speed = drew[3] + 1;
            int end = -1;
            for (int step = 0; step < 60 && end < 0; step++) {
                s = (s * 1103 + 12345) % 1000003;
                boolean slip = s % 10 < 5;
                // PULLS: down 0 (or KEEP), right 0, left 0, uphill -99.
                int down = direction == 2 ? 3 : 0;
                int right = (cell == 78 ? -99 : 0) + (direction == 1 ? 3 : 0);
                int left = (cell == 73 ? -99 : 0) + (direction == 3 ? 3 : 0);
                int[][] ways = {{1, right}, {2, down}, {3, left}};
                java.util.Arrays.sort(ways, (a, b) -> a[1] != b[1] ? b[1] - a[1] : a[0] - b[0]);
                int way = ways[slip ? 1 : 0][0];
                direction = way;
                if (way == 2) end = 100 + cell % 8;
                else cell += way == 1 ? 1 : -1;
                if (cell == 72 || cell == 79) end = -2;
            }
            if (end >= 100 && speed > 0) {
                due("summer(" + seed + ", 1)", x.summer(seed, 1), 0);
                due("drawn(" + end + ") of seed " + seed, x.drawn(end), 1);
            }
        }
    }

    private static void images() {
        CheesePost x = new CheesePost();
        promise = 45;
        refused(x, "back(0)", x.back(0), -2);
        refused(x, "back(2)", x.back(2), -1);
        refused(x, "back(-1)", x.back(-1), -1);
        promise = 44;
        refused(x, "image(2)", x.image(2), -1);
        refused(x, "image(-1)", x.image(-1), -1);
        answered(x, "image(0)", x.image(0), 0);
        x.height(1, 1);
        x.fence(1, 1);
        x.house(1, 1);
        x.dairy(1);
        x.wheel(1, 1);
        x.letter(0, 1);
        x.terms(0, 1);
        x.terms(3, 0);
        law(x, "slows 7");
        x.force(0);
        x.trace(1, 1);
        x.reply(0, 1);
        x.send(21);
        x.summer(0, 5);
        put(x, "shuts");
        answered(x, "image(1)", x.image(1), 0);
        due("count(8) behind image", x.count(8), 1);
        answered(x, "back(0)", x.back(0), 0);
        promise = 45;
        int[] bare = {0, 0, 0, 0, 0, 0, 0, 0, 0, 5};
        for (int i = 0; i < bare.length; i++) due("count(" + i + ") at 0", x.count(i), bare[i]);
        due("count(15)", x.count(15), -1);
        due("count(16)", x.count(16), 0);
        due("at(1, 0)", x.at(1, 0), 90);
        due("at(1, 2)", x.at(1, 2), -1);
        due("count(9), the tape is kept", x.count(9), 5);
        due("a law on it", x.law(), 0);
        due("the summer is kept", endedIn(x), 5);
        refused(x, "undo()", x.undo(), -3);
        answered(x, "back(1)", x.back(1), 0);
        int[] told = {1, 1, 1, 1, 1, 1, 1, 1, 0, 0};
        for (int i = 0; i < told.length; i++) due("count(" + i + ") at 1", x.count(i), told[i]);
        due("count(15)", x.count(15), 0);
        due("asks by the law of then", x.asks(0, 0, 0, 0), 7);
        due("asks by the law of then", x.asks(0, 0, 0, 2), 0);
        due("at(1, 0)", x.at(1, 0), 1);
        due("reply(0, 1)", x.reply(0, 0), 1);
        due("count(10) is not kept", x.count(10), 4);
        due("count(11) is not kept", x.count(11), 1);
        due("back(1), images stay", x.back(1), 0);
        due("reply(0, 1)", x.reply(0, 1), 1);
        due("back(0), images stay", x.back(0), 0);
        due("count(0)", x.count(0), 0);
        law(x, "wrong");
        x.back(1);
        due("fault() is not gone back to", x.fault(), 0);
    }

    /** What a LAW told before does not stay, whichever call asks next. */
    private static void lawsToldAnew() {
        for (int call = 0; call < 9; call++) {
            promise = new int[] {22, 25, 26, 30, 31, 32, 35, 36, 42}[call];
            CheesePost x = new CheesePost();
            x.wheel(9, 0);
            x.dairy(3);
            x.house(35, 0);
            x.letter(0, 5);
            x.fence(19, 1);
            x.trace(19, 1);
            x.terms(3, 0);
            law(x, "slows day");
            x.force(0);
            due("ahead, call " + call, anew(x, call), 1);
            x.terms(0, 99);
            due("slowed more, call " + call, anew(x, call), 0);
            x.terms(0, 0);
            law(x, "shuts if y>0 and height<90");
            x.force(1);
            due("shut, call " + call, anew(x, call), 0);
            for (int i = 8; i < 80; i++) x.height(i, 90);
            x.terms(1, 20);
            due("no longer shut, call " + call, anew(x, call), 1);
            x.force(-1);
            due("no law, call " + call, anew(x, call), 1);
        }
    }

    /** Whether the THROW 29 comes to the HOUSE, as a call tells it. */
    private static int anew(CheesePost x, int call) {
        switch (call) {
            case 0: return x.roll(3, 2, 9, 0, 1) == 2 ? 1 : 0;
            case 1: return x.slips(29, 0, 2) == 35 ? 1 : 0;
            case 2: return x.ends(29, 0, 35);
            case 3: return x.aim(0, 0) > 0 ? 1 : 0;
            case 4: return x.sure(0, 0, 1) == 1 ? 1 : 0;
            case 5: return x.post(2);
            case 6: return x.fits(-1) > 0 ? 1 : 0;
            case 7: return x.wall(29, 0, -1) > 0 ? 1 : 0;
            default: return x.summer(7, 30) > 0 ? 1 : 0;
        }
    }

    /** An IMAGE keeps all of it, whatever is told in its place meanwhile. */
    private static void imagesKeepAll() {
        CheesePost x = new CheesePost();
        promise = 45;
        x.image(0);
        x.house(35, 4);
        x.dairy(3);
        x.wheel(9, 1);
        x.wheel(8, 7);
        x.letter(0, 60);
        x.trace(19, 1);
        x.fence(19, 2);
        x.reply(0, 6);
        law(x, "eats if ripe=7;costs 11");
        x.force(0);
        x.send(160 + 25);
        x.fence(19, 2);
        x.image(1);
        x.back(0);
        x.house(76, 9);
        x.house(77, 9);
        x.dairy(79);
        x.wheel(1, 8);
        x.wheel(1, 8);
        x.letter(1, 3);
        x.trace(5, 0);
        x.reply(0, 9);
        x.reply(1, 9);
        law(x, "slows 99");
        x.force(0);
        x.back(1);
        int[] want = {35, 4, 0, -1, 0, 9, 1, 8, 7, 0, 1, 0, 1, 60, 11, 36, 1, 8, 1};
        int[] got = {x.roll(3, 2, 5, 0, 0), x.at(35, 3), x.at(35, 2), x.at(76, 3), x.at(3, 4), x.of(0, 0), x.of(0, 1),
            x.of(1, 0), x.of(1, 1), x.of(0, 2), x.of(1, 2), x.came(0, 0), x.came(0, 1), x.post(0), x.aim(0, 2), x.fits(-1),
            x.fits(0), x.trips(0, 1), x.trips(0, 2)};
        for (int i = 0; i < want.length; i++) due("what image 1 keeps, " + i, got[i], want[i]);
    }

    private static void counts() {
        CheesePost x = new CheesePost();
        promise = 46;
        int[] first = {0, 0, 0, 0, 0, 0, 0, 0, 0, 0, 0, 0, 0, 0, 0, -1, 0, 3, 10, 2};
        for (int i = 0; i < first.length; i++) due("count(" + i + ")", x.count(i), first[i]);
        due("count(20)", x.count(20), -1);
        due("count(-1)", x.count(-1), -1);
        x.height(-1, 0);
        x.wheel(0, 0);
        x.force(3);
        x.undo();
        x.undo();
        x.undo();
        for (int i = 0; i < 8; i++) x.dairy(0);
        x.row();
        x.law();
        x.orders();
        x.row();
        x.row();
        due("count(10)", x.count(10), 2);
        due("count(11)", x.count(11), 1);
        due("count(12)", x.count(12), 3);
        due("count(13)", x.count(13), 4);
        due("count(14)", x.count(14), 5);
        // What is NONE is not REFUSED.
        x.at(-1, 0);
        x.of(9, 9);
        x.end(-1);
        x.asks(-1, 0, 0, 0);
        x.roll(-1, 0, 0, 0, 0);
        x.trips(9, 9);
        x.share(-1, 0, 0, 0);
        due("count(10)", x.count(10), 2);
        x.fence(1, 1);
        x.fence(2, 9);
        x.fence(3, 0);
        due("count(7)", x.count(7), 2);
        promise = 47;
        due("status()", x.status(), 0);
        x.row();
        due("status()", x.status(), -6);
        x.burn();
        x.forget();
        x.feed(1, 1, 1, 1, 1);
        x.end(0);
        x.count(1);
        due("status() is the latest's of those named", x.status(), -6);
        x.force(-1);
        due("status() of an answer NONE", x.status(), 0);
    }
}
