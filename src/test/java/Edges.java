import java.util.LinkedHashMap;
import java.util.Map;

/**
 * What the tests of edges share. Each sentence of the document that names an edge is told by says(); each call is made
 * on an object of its own, which a scene sets, so that no object sees more than the 512 calls that are promised.
 */
final class Edges {
    interface Scene {
        void set(CheesePost x);
    }

    interface Call {
        int on(CheesePost x);
    }

    /** Numbers far from all that is allowed. */
    static final int[] FAR = {Integer.MIN_VALUE, Integer.MIN_VALUE + 1, -1000, 1000000007, Integer.MAX_VALUE};

    static final Scene BARE = x -> { };
    /** One of each: from 3 it rolls straight down to the HOUSE at 35. */
    static final Scene PAIR = x -> {
        x.wheel(2, 0);
        x.dairy(3);
        x.house(35, 0);
    };
    static final Scene FULL = Edges::setFull;

    private static final int PARTS = 3;
    private static final int[] REFUSALS = {-1, -2, -3, -5, -6};

    private String sentence = "";
    private int sentences = 0;
    private int wrong = 0;

    /** Begins the test of a sentence. */
    void says(String ofDocument) {
        sentence = ofDocument;
        sentences++;
    }

    void due(String what, int got, int want) {
        if (got != want) {
            wrong++;
            System.out.println("\"" + sentence + "\": " + what + " answered " + got + ", due is " + want);
        }
    }

    /** What a call answers, whether it is REFUSED or not. */
    void asked(Scene scene, String what, Call call, int want) {
        due(what, call.on(made(scene)), want);
    }

    /** A call that is not REFUSED. */
    void done(Scene scene, String what, Call call, int want) {
        CheesePost x = made(scene);
        int[] were = refusals(x);
        due(what, call.on(x), want);
        due("status() behind " + what, x.status(), 0);
        for (int i = 0; i < REFUSALS.length; i++) {
            due("count(" + (10 + i) + ") behind " + what, x.count(10 + i), were[i]);
        }
    }

    /** A call that answers NONE, is not told as REFUSED and changes nothing. */
    void none(Scene scene, String what, Call call) {
        asksAlone(scene, what, call, -1);
    }

    /** A call that answers and changes nothing. */
    void asksAlone(Scene scene, String what, Call call, int want) {
        CheesePost x = made(scene);
        int status = x.status();
        int[] were = refusals(x);
        due(what, call.on(x), want);
        due("status() behind " + what, x.status(), status);
        for (int i = 0; i < REFUSALS.length; i++) {
            due("count(" + (10 + i) + ") behind " + what, x.count(10 + i), were[i]);
        }
        alike(what, twin -> {
            scene.set(twin);
            call.on(twin);
        }, scene, "");
    }

    /** A REFUSED call changes nothing but what tells that it was REFUSED. */
    void refused(Scene scene, String what, Call call, int by) {
        refusedOnce(scene, what, call, by);
        alike(what, x -> {
            scene.set(x);
            call.on(x);
        }, scene, "");
    }

    /** A REFUSED row(), law() or orders() empties the TAPE. */
    void refusedText(Scene scene, String text, Call call, int by) {
        Scene told = x -> {
            scene.set(x);
            x.end(0);
            put(x, text);
        };
        refusedOnce(told, text, call, by);
        alike(text, x -> {
            told.set(x);
            call.on(x);
        }, x -> {
            scene.set(x);
            x.end(0);
        }, "fault() stopped()");
    }

    private void refusedOnce(Scene scene, String what, Call call, int by) {
        CheesePost x = made(scene);
        int[] were = refusals(x);
        due(what, call.on(x), by);
        due("status() behind " + what, x.status(), by);
        for (int i = 0; i < REFUSALS.length; i++) {
            due("count(" + (10 + i) + ") behind " + what, x.count(10 + i), were[i] + (REFUSALS[i] == by ? 1 : 0));
        }
    }

    /** That two scenes can't be told from one another. */
    void alike(String what, Scene one, Scene other, String but) {
        for (int part = 0; part < PARTS; part++) {
            Map<String, Integer> is = look(made(one), part);
            Map<String, Integer> due = look(made(other), part);
            for (Map.Entry<String, Integer> e : due.entrySet()) {
                if (!but.contains(e.getKey())) {
                    due(e.getKey() + " behind " + what, is.getOrDefault(e.getKey(), -9999), e.getValue());
                }
            }
        }
    }

    void end() {
        System.out.println(sentences + " sentences, " + (wrong == 0 ? "all hold" : wrong + " answers are not as due"));
        if (wrong != 0) System.exit(1);
    }

    static CheesePost made(Scene scene) {
        CheesePost x = new CheesePost();
        scene.set(x);
        return x;
    }

    private static int[] refusals(CheesePost x) {
        int[] all = new int[REFUSALS.length];
        for (int i = 0; i < all.length; i++) all[i] = x.count(10 + i);
        return all;
    }

    /** Puts a text on the tape, behind what is there. */
    static void put(CheesePost x, String text) {
        int before = x.count(9);
        for (int i = 0; i < text.length(); i += 20) {
            int[] n = new int[5];
            for (int b = 0; b < 20; b++) {
                n[b / 4] = n[b / 4] << 8 | (i + b < text.length() ? text.charAt(i + b) & 255 : 0);
            }
            x.feed(n[0], n[1], n[2], n[3], n[4]);
        }
        x.end(before + text.length());
    }

    static String bytes(int... all) {
        StringBuilder text = new StringBuilder();
        for (int b : all) text.append((char) b);
        return text.toString();
    }

    static String many(String text, int times) {
        StringBuilder all = new StringBuilder();
        for (int i = 0; i < times; i++) all.append(text);
        return all.toString();
    }

    static int law(CheesePost x, String text) {
        put(x, text);
        return x.law();
    }

    static int orders(CheesePost x, String text) {
        put(x, text);
        return x.orders();
    }

    /** Tells a LAW and puts it in FORCE. */
    static void under(CheesePost x, String text) {
        x.force(law(x, text));
    }

    /** All HEIGHTS alike, told by rows: ten of them with few calls. */
    static void flat(CheesePost x, int height) {
        for (int y = 0; y < 10; y++) {
            put(x, bytes(y, height, height, height, height, height, height, height, height));
            x.row();
        }
    }

    private static void setFull(CheesePost x) {
        for (int i = 0; i < 8; i++) x.wheel(i + 1, i);
        x.dairy(3);
        x.dairy(4);
        x.image(0);
        x.dairy(3);
        x.dairy(7);
        int[] cells = {35, 36, 37, 38, 20, 21, 22, 79};
        for (int i = 0; i < 8; i++) {
            x.house(cells[i], i);
            x.letter(i % 5, 10 + i);
            x.reply(i, i);
            x.trace(9 * i, i % 2);
        }
        x.fence(19, 4);
        x.fence(50, 9);
        x.height(60, 55);
        x.terms(0, 5);
        x.terms(1, 4);
        x.terms(2, 12);
        x.terms(3, 3);
        String[] laws = {"slows 1", "costs 2;slows 2", "eats if hunger=3", "shuts if x=0", "slows 1;costs day", "costs ripe"};
        for (String text : laws) law(x, text);
        x.force(4);
        x.image(1);
        for (int i = 0; i < 6; i++) x.send(160 * i + 40 * (i % 4) + 25);
        x.fence(20, 2);
        x.summer(7, 20);
        put(x, bytes(5, 44, 100, 43, 42, 255));
        x.row();
        orders(x, "wait;mend 80 by 1");
        put(x, bytes(9, 1, 2, 3, 200));
    }

    /** All that can be asked of an object, in parts: none asks more than 400 times. */
    private static Map<String, Integer> look(CheesePost x, int part) {
        Map<String, Integer> all = new LinkedHashMap<>();
        if (part == 0) {
            for (int cell = 0; cell < 80; cell++) {
                for (int what = 0; what < 3; what++) all.put("at(" + cell + ", " + what + ")", x.at(cell, what));
            }
        } else if (part == 1) {
            lookAtTheRest(x, all);
        } else {
            lookAtGoods(x, all);
            lookAtThrows(x, all);
            lookBack(x, all);
        }
        return all;
    }

    private static void lookAtTheRest(CheesePost x, Map<String, Integer> all) {
        for (int cell = 0; cell < 80; cell++) {
            for (int what = 3; what < 5; what++) all.put("at(" + cell + ", " + what + ")", x.at(cell, what));
        }
        for (int end = 0; end < 108; end = end == 79 ? 100 : end + 1) all.put("drawn(" + end + ")", x.drawn(end));
        all.put("crumbs()", x.crumbs());
        all.put("row() of the TAPE", x.row());
        all.put("crumbs() of the TAPE", x.crumbs());
        for (int cell = 0; cell < 80; cell++) all.put("at(" + cell + ", 0) behind row()", x.at(cell, 0));
    }

    private static void lookAtGoods(CheesePost x, Map<String, Integer> all) {
        for (int what = 0; what < 20; what++) {
            if (what < 10 || what > 14) all.put("count(" + what + ")", x.count(what));
        }
        all.put("fault()", x.fault());
        all.put("stopped()", x.stopped());
        for (int wheel = 0; wheel < 8; wheel++) {
            for (int what = 0; what < 3; what++) all.put("of(" + wheel + ", " + what + ")", x.of(wheel, what));
        }
        for (int house = 0; house < 8; house++) {
            for (int what = 0; what < 2; what++) all.put("came(" + house + ", " + what + ")", x.came(house, what));
        }
        for (int dairy = 0; dairy < 4; dairy++) {
            for (int what = 0; what < 3; what++) all.put("trips(" + dairy + ", " + what + ")", x.trips(dairy, what));
        }
    }

    private static void lookAtThrows(CheesePost x, Map<String, Integer> all) {
        for (int house = 0; house < 8; house++) {
            for (int what = 0; what < 4; what++) all.put("aim(" + house + ", " + what + ")", x.aim(house, what));
        }
        for (int what = 0; what < 11; what++) all.put("post(" + what + ")", x.post(what));
        for (int i = -1; i < 3; i++) all.put("fits(" + i + ")", x.fits(i));
        int laws = x.count(5);
        for (int law = 0; law < laws; law++) {
            x.force(law);
            for (int what = 0; what < 4; what++) all.put("asks by " + law + ", " + what, x.asks(38, 6, 5, what));
        }
    }

    private static void lookBack(CheesePost x, Map<String, Integer> all) {
        for (int i = 0; i < 9; i++) {
            all.put("undo() " + i, x.undo());
            all.put("count(3) behind undo() " + i, x.count(3));
            all.put("count(7) behind undo() " + i, x.count(7));
            all.put("came(0, 0) behind undo() " + i, x.came(0, 0));
            all.put("came(4, 0) behind undo() " + i, x.came(4, 0));
        }
        for (int k = 0; k < 2; k++) {
            all.put("back(" + k + ")", x.back(k));
            for (int what = 0; what < 20; what++) {
                if (what < 9 || what > 14) all.put("count(" + what + ") at IMAGE " + k, x.count(what));
            }
            for (int cell = 0; cell < 80; cell += 5) all.put("at(" + cell + ", 0) at IMAGE " + k, x.at(cell, 0));
        }
    }
}
