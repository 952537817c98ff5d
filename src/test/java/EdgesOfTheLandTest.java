/** The sentences of Terms I that name an edge, with the promises 1 to 15 (and what else is told by a CELL or a number). */
public final class EdgesOfTheLandTest {
    private static final Edges EDGES = new Edges();

    /** A call that takes one number. */
    interface With {
        int on(CheesePost x, int number);
    }

    public static void main(String[] args) {
        aNewObject();
        cells();
        heights();
        fences();
        theValley();
        houses();
        dairies();
        wheels();
        letters();
        terms();
        directions();
        toldThrows();
        orderOfThrows();
        theFirstRefusal();
        askedOfCells();
        askedOfWheels();
        burning();
        feeding();
        ending();
        rows();
        crumbs();
        theLastCall();
        EDGES.end();
    }

    /** A number is taken from least to most; beside that the call is REFUSED by -1 and changes nothing. */
    private static void taken(Edges.Scene scene, String what, With call, int least, int most) {
        for (int n : new int[] {least, most}) {
            CheesePost x = Edges.made(scene);
            int answer = call.on(x, n);
            EDGES.due("status() behind " + what + " of " + n, x.status(), 0);
            EDGES.due("whether " + what + " of " + n + " is answered", answer >= 0 ? 1 : 0, 1);
        }
        refusedBeside(scene, what, call, least, most);
    }

    private static void refusedBeside(Edges.Scene scene, String what, With call, int least, int most) {
        for (int n : new int[] {least - 1, most + 1}) EDGES.refused(scene, what + " of " + n, x -> call.on(x, n), -1);
        for (int n : Edges.FAR) EDGES.refused(scene, what + " of " + n, x -> call.on(x, n), -1);
    }

    /** What is asked is not NONE from least to most, and NONE beside that, where it changes nothing. */
    private static void known(Edges.Scene scene, String what, With call, int least, int most) {
        for (int n : new int[] {least, most}) {
            CheesePost x = Edges.made(scene);
            EDGES.due("whether " + what + " of " + n + " is known", call.on(x, n) != -1 ? 1 : 0, 1);
        }
        for (int n : new int[] {least - 1, most + 1}) EDGES.none(scene, what + " of " + n, x -> call.on(x, n));
        for (int n : Edges.FAR) EDGES.none(scene, what + " of " + n, x -> call.on(x, n));
    }

    private static void aNewObject() {
        EDGES.says("A bare slope.");
        int[] counts = {0, 0, 0, 0, 0, 0, 0, 0, 0, 0, 0, 0, 0, 0, 0, -1, 0, 3, 10, 2};
        for (int i = 0; i < counts.length; i++) {
            int what = i;
            EDGES.asked(Edges.BARE, "count(" + i + ")", x -> x.count(what), counts[i]);
        }
        EDGES.asked(Edges.BARE, "status()", CheesePost::status, 0);
        EDGES.asked(Edges.BARE, "crumbs()", CheesePost::crumbs, 0);
        EDGES.asked(Edges.BARE, "fault()", CheesePost::fault, -1);
        EDGES.asked(Edges.BARE, "stopped()", CheesePost::stopped, -1);
        EDGES.says("NONE = -1: There is none.");
        EDGES.due("NONE", CheesePost.NONE, -1);
    }

    private static void cells() {
        EDGES.says("A MEADOW of CELLS 0 .. 79");
        for (Edges.Scene scene : new Edges.Scene[] {Edges.BARE, Edges.PAIR}) {
            taken(scene, "height(n, 5)", (x, n) -> x.height(n, 5), 0, 79);
            taken(scene, "fence(n, 5)", (x, n) -> x.fence(n, 5), 0, 79);
            taken(scene, "house(n, 5)", (x, n) -> x.house(n, 5), 0, 79);
            taken(scene, "dairy(n)", (x, n) -> x.dairy(n), 0, 79);
            taken(scene, "trace(n, 0)", (x, n) -> x.trace(n, 0), 0, 79);
            known(scene, "at(n, 0)", (x, n) -> x.at(n, 0), 0, 79);
        }
        known(Edges.PAIR, "at(n, 1)", (x, n) -> x.at(n, 1), 0, 79);
        known(Edges.PAIR, "asks(n, 0, 5, 0)", (x, n) -> x.asks(n, 0, 5, 0), 0, 79);
        known(Edges.PAIR, "roll(n, 2, 5, 0, 0)", (x, n) -> x.roll(n, 2, 5, 0, 0), 0, 79);
        known(Edges.PAIR, "path(n, 2, 5, 0, 0)", (x, n) -> x.path(n, 2, 5, 0, 0), 0, 79);
        Edges.Scene fenced = x -> {
            Edges.PAIR.set(x);
            x.height(71, 50);
            for (int cell : new int[] {8, 78}) x.fence(cell, 1);
        };
        known(fenced, "broken(n, 2, 50, 0, 0)", (x, n) -> x.broken(n, n == 0 ? 2 : 3, 50, 0, 0), 0, 79);
        EDGES.says("8 y and x; y 0 .. 9 downhill, x 0 .. 7");
        Edges.Scene wheel = x -> x.wheel(1, 0);
        // Down from y 0 it is in the VALLEY behind ten STEPS, whatever x is.
        for (int i = 0; i < 8; i++) {
            int cell = i;
            EDGES.asked(wheel, "roll(" + cell + ", 2, 5, 0, 2)", x -> x.roll(cell, 2, 5, 0, 2), 10);
            EDGES.asked(wheel, "path(" + cell + ", 2, 5, 0, 9)", x -> x.path(cell, 2, 5, 0, 9), 72 + cell);
        }
        EDGES.says("of the HOUSE there (LAWS: x, y)");
        int[][] corners = {{0, 0, 0}, {7, 7, 0}, {8, 0, 1}, {72, 0, 9}, {79, 7, 9}};
        for (int[] c : corners) {
            Edges.Scene told = x -> {
                x.wheel(1, 0);
                Edges.under(x, "slows x*10+y");
            };
            EDGES.asked(told, "x and y of " + c[0], x -> x.asks(c[0], 0, 5, 0), c[1] * 10 + c[2]);
        }
    }

    private static void heights() {
        EDGES.says("HEIGHT 0 .. 99 (90 less 10 y at first)");
        for (int i = 0; i < 80; i++) {
            int cell = i;
            EDGES.asked(Edges.BARE, "at(" + cell + ", 0)", x -> x.at(cell, 0), 90 - 10 * (cell / 8));
        }
        taken(Edges.BARE, "height(41, n)", (x, n) -> x.height(41, n), 0, 99);
        taken(Edges.FULL, "height(60, n)", (x, n) -> x.height(60, n), 0, 99);
        for (int h : new int[] {0, 1, 98, 99}) {
            EDGES.asked(x -> x.height(41, h), "at(41, 0) of " + h, x -> x.at(41, 0), h);
        }
        EDGES.says("HEIGHT of a CELL: what it was.");
        EDGES.done(x -> x.height(79, 99), "height(79, 0)", x -> x.height(79, 0), 99);
        EDGES.done(x -> x.height(79, 99), "height(78, 0), its neighbour", x -> x.height(78, 0), 0);
        EDGES.done(x -> x.height(5, 100), "height(5, 0) behind one REFUSED", x -> x.height(5, 0), 90);
    }

    private static void fences() {
        EDGES.says("a FENCE 0 .. 9 (0: none)");
        for (int i = 0; i < 80; i++) {
            int cell = i;
            EDGES.asked(Edges.BARE, "at(" + cell + ", 1)", x -> x.at(cell, 1), 0);
        }
        taken(Edges.BARE, "fence(41, n)", (x, n) -> x.fence(41, n), 0, 9);
        taken(Edges.FULL, "fence(50, n)", (x, n) -> x.fence(50, n), 0, 9);
        EDGES.asked(x -> x.fence(41, 1), "count(7) of a FENCE of 1", x -> x.count(7), 1);
        EDGES.asked(x -> x.fence(41, 0), "count(7) of a FENCE of 0", x -> x.count(7), 0);
        EDGES.asked(x -> {
            x.fence(41, 9);
            x.fence(41, 0);
        }, "count(7) of one taken away", x -> x.count(7), 0);
        EDGES.asked(x -> {
            for (int cell = 0; cell < 80; cell++) x.fence(cell, 1);
        }, "count(7) of all", x -> x.count(7), 80);
        Edges.Scene none = x -> {
            x.wheel(1, 0);
            x.fence(11, 0);
        };
        EDGES.asked(none, "roll(3, 2, 1, 0, 4) over a FENCE of 0", x -> x.roll(3, 2, 1, 0, 4), 0);
        EDGES.says("A FENCE on a CELL: what it was.");
        EDGES.done(x -> x.fence(79, 9), "fence(79, 0)", x -> x.fence(79, 0), 9);
        EDGES.done(x -> x.fence(79, 10), "fence(79, 1) behind one REFUSED", x -> x.fence(79, 1), 0);
    }

    private static void theValley() {
        EDGES.says("Below y 9 is the VALLEY (100 and x; HEIGHT 0).");
        for (int i = 0; i < 8; i++) {
            int column = i;
            Edges.Scene told = x -> {
                x.wheel(1, 0);
                x.height(72 + column, 7);
            };
            EDGES.asked(told, "roll from y 9, its END", x -> x.roll(72 + column, 2, 5, 0, 0), 100 + column);
            EDGES.asked(told, "roll from y 9, its SPEED then", x -> x.roll(72 + column, 2, 5, 0, 3), 5 + 7 - 1);
            EDGES.asked(told, "roll from y 9, its STEPS", x -> x.roll(72 + column, 2, 5, 0, 2), 1);
            EDGES.asked(told, "path from y 9", x -> x.path(72 + column, 2, 5, 0, 1), 100 + column);
        }
        // It is no CELL.
        for (int end : new int[] {100, 107}) {
            EDGES.refused(Edges.BARE, "height(" + end + ", 5)", x -> x.height(end, 5), -1);
            EDGES.none(Edges.BARE, "at(" + end + ", 0)", x -> x.at(end, 0));
        }
    }

    private static void houses() {
        EDGES.says("HOUSES 0 .. 7 (8 at most)");
        Edges.Scene seven = x -> {
            for (int i = 0; i < 7; i++) EDGES.due("house()", x.house(10 * i, 9 - i), i);
        };
        EDGES.done(seven, "house(), the eighth", x -> x.house(79, 0), 7);
        Edges.Scene eight = x -> {
            seven.set(x);
            x.house(79, 0);
        };
        EDGES.refused(eight, "house(), the ninth", x -> x.house(1, 0), -5);
        EDGES.refused(Edges.FULL, "house(), the ninth", x -> x.house(1, 0), -5);
        EDGES.asked(eight, "count(0)", x -> x.count(0), 8);
        for (int i = 0; i < 7; i++) {
            int house = i;
            EDGES.asked(eight, "at(" + 10 * i + ", 2)", x -> x.at(10 * house, 2), house);
            EDGES.asked(eight, "at(" + 10 * i + ", 3)", x -> x.at(10 * house, 3), 9 - house);
        }
        EDGES.says("each at a CELL without one");
        EDGES.refused(Edges.PAIR, "house(35, 0)", x -> x.house(35, 0), -3);
        EDGES.refused(Edges.PAIR, "house(35, 9), of another HUNGER", x -> x.house(35, 9), -3);
        EDGES.done(Edges.PAIR, "house(34, 0)", x -> x.house(34, 0), 1);
        EDGES.done(Edges.PAIR, "house(36, 0)", x -> x.house(36, 0), 1);
        EDGES.done(Edges.PAIR, "house(3, 0), where a DAIRY is", x -> x.house(3, 0), 1);
        EDGES.says("HUNGER 0 .. 9");
        taken(Edges.PAIR, "house(41, n)", (x, n) -> x.house(41, n), 0, 9);
        EDGES.asked(x -> x.house(41, 0), "at(41, 3) of 0", x -> x.at(41, 3), 0);
        EDGES.asked(x -> x.house(41, 9), "at(41, 3) of 9", x -> x.at(41, 3), 9);
    }

    private static void dairies() {
        EDGES.says("DAIRIES 0 .. 3 (4 at most), each at a CELL");
        Edges.Scene three = x -> {
            for (int i = 0; i < 3; i++) EDGES.due("dairy()", x.dairy(5), i);
        };
        EDGES.done(three, "dairy(), the fourth", x -> x.dairy(0), 3);
        EDGES.asked(three, "count(1)", x -> x.count(1), 3);
        EDGES.refused(x -> {
            three.set(x);
            x.dairy(79);
        }, "dairy(), the fifth", x -> x.dairy(0), -5);
        EDGES.refused(Edges.FULL, "dairy(), the fifth", x -> x.dairy(0), -5);
        EDGES.done(Edges.PAIR, "dairy(35), where a HOUSE is", x -> x.dairy(35), 1);
        EDGES.says("the first DAIRY there (4)");
        EDGES.asked(three, "at(5, 4)", x -> x.at(5, 4), 0);
        EDGES.asked(x -> {
            x.dairy(4);
            x.dairy(5);
            x.dairy(5);
        }, "at(5, 4)", x -> x.at(5, 4), 1);
    }

    private static void wheels() {
        EDGES.says("WHEELS 0 .. 7 (8 at most)");
        Edges.Scene seven = x -> {
            for (int i = 0; i < 7; i++) EDGES.due("wheel()", x.wheel(i + 1, i), i);
        };
        Edges.Scene eight = x -> {
            seven.set(x);
            x.wheel(9, 9);
        };
        EDGES.done(seven, "wheel(), the eighth", x -> x.wheel(9, 9), 7);
        EDGES.refused(eight, "wheel(), the ninth", x -> x.wheel(1, 0), -5);
        EDGES.says("SIZE 1 .. 9, RIPE 0 .. 9");
        taken(Edges.PAIR, "wheel(n, 5)", (x, n) -> x.wheel(n, 5), 1, 9);
        taken(Edges.PAIR, "wheel(5, n)", (x, n) -> x.wheel(5, n), 0, 9);
        for (int n : new int[] {1, 9}) {
            EDGES.asked(x -> x.wheel(n, 0), "of(0, 0) of " + n, x -> x.of(0, 0), n);
            EDGES.asked(x -> x.wheel(n, n), "of(0, 1) of " + n, x -> x.of(0, 1), n);
        }
        EDGES.asked(x -> x.wheel(5, 0), "of(0, 1) of 0", x -> x.of(0, 1), 0);
        EDGES.says("those sent are GONE (their numbers stay)");
        Edges.Scene sent = x -> {
            Edges.PAIR.set(x);
            x.send(25);
        };
        EDGES.done(sent, "wheel() behind a send", x -> x.wheel(3, 4), 1);
        EDGES.asked(sent, "count(2)", x -> x.count(2), 1);
        EDGES.asked(sent, "of(0, 0)", x -> x.of(0, 0), 2);
        EDGES.asked(sent, "of(0, 2)", x -> x.of(0, 2), 1);
        // Those GONE take their room.
        EDGES.refused(x -> {
            x.dairy(3);
            eight.set(x);
            for (int i = 0; i < 8; i++) x.send(160 * i + 25);
        }, "wheel(), the ninth, all GONE", x -> x.wheel(1, 0), -5);
    }

    private static void letters() {
        EDGES.says("LETTERS 0 .. 7 (8 at most): to a HOUSE");
        Edges.Scene seven = x -> {
            Edges.PAIR.set(x);
            for (int i = 0; i < 7; i++) EDGES.due("letter()", x.letter(0, 10), i);
        };
        EDGES.done(seven, "letter(), the eighth", x -> x.letter(0, 10), 7);
        EDGES.refused(x -> {
            seven.set(x);
            x.letter(0, 10);
        }, "letter(), the ninth", x -> x.letter(0, 10), -5);
        EDGES.refused(Edges.FULL, "letter(), the ninth", x -> x.letter(0, 10), -5);
        EDGES.done(x -> {
            Edges.FULL.set(x);
            x.burn();
        }, "letter() behind burn()", x -> x.letter(7, 10), 0);
        EDGES.refused(Edges.PAIR, "letter(1, 10), no such HOUSE", x -> x.letter(1, 10), -2);
        EDGES.refused(Edges.PAIR, "letter(7, 10), no such HOUSE", x -> x.letter(7, 10), -2);
        EDGES.refused(Edges.BARE, "letter(0, 10), no HOUSE at all", x -> x.letter(0, 10), -2);
        EDGES.says("of a WORTH 1 .. 99");
        taken(Edges.PAIR, "letter(0, n)", (x, n) -> x.letter(0, n), 1, 99);
    }

    private static void terms() {
        EDGES.says("TERMS: 0 DAY 0 .. 99 (0 at first), 1 KEEP 0 .. 20 (3), 2 LOAD 1 .. 60 (10), 3 SLIP 0 .. 9 (2)");
        int[][] all = {{0, 99, 0}, {0, 20, 3}, {1, 60, 10}, {0, 9, 2}};
        for (int i = 0; i < 4; i++) {
            int what = i;
            int[] t = all[i];
            EDGES.asked(Edges.BARE, "count(" + (16 + i) + ")", x -> x.count(16 + what), t[2]);
            EDGES.done(Edges.BARE, "terms(" + i + ", the most)", x -> x.terms(what, t[1]), t[2]);
            EDGES.done(x -> x.terms(what, t[1]), "terms(" + i + ", the least)", x -> x.terms(what, t[0]), t[1]);
            EDGES.asked(x -> x.terms(what, t[0]), "count(" + (16 + i) + ")", x -> x.count(16 + what), t[0]);
            refusedBeside(Edges.BARE, "terms(" + i + ", n)", (x, n) -> x.terms(what, n), t[0], t[1]);
            refusedBeside(Edges.FULL, "terms(" + i + ", n)", (x, n) -> x.terms(what, n), t[0], t[1]);
        }
        refusedBeside(Edges.BARE, "terms(n, 1)", (x, n) -> x.terms(n, 1), 0, 3);
    }

    private static void directions() {
        EDGES.says("DIRECTIONS: 0 up (y less 1), 1 right, 2 down, 3 left.");
        // On the flat, with SPEED 2, it goes one STEP as it was thrown.
        Edges.Scene flat = x -> {
            x.wheel(1, 0);
            Edges.flat(x, 50);
        };
        int[] to = {28, 37, 44, 35};
        for (int i = 0; i < 4; i++) {
            int direction = i;
            EDGES.asked(flat, "roll(36, " + i + ", 2, 0, 0)", x -> x.roll(36, direction, 2, 0, 0), to[i]);
        }
        // Out of the MEADOW there is no CELL, and none around the edge: the lowest of the others is taken.
        int[][] out = {{3, 0, 4}, {39, 1, 31}, {32, 3, 24}, {0, 0, 1}, {0, 3, 1}, {7, 0, 15}, {7, 1, 15}};
        for (int[] o : out) {
            EDGES.asked(flat, "roll(" + o[0] + ", " + o[1] + ", 2, 0, 0)", x -> x.roll(o[0], o[1], 2, 0, 0), o[2]);
        }
        known(Edges.PAIR, "roll(3, n, 5, 0, 0)", (x, n) -> x.roll(3, n, 5, 0, 0), 0, 3);
        known(Edges.PAIR, "path(3, n, 5, 0, 0)", (x, n) -> x.path(3, n, 5, 0, 0), 0, 3);
        Edges.Scene fenced = x -> {
            x.wheel(9, 0);
            x.fence(11, 1);
        };
        known(fenced, "broken(3, n, 5, 0, 0)", (x, n) -> x.broken(3, n, 5, 0, 0), 0, 3);
    }

    private static void toldThrows() {
        EDGES.says("A THROW is told as WHEEL times 160, DAIRY times 40, DIRECTION times 10, and SPEED 1 .. 9");
        for (int cast : new int[] {-1, 0, 10, 20, 30, 40, 120, 160, 1270, 1280, 1281}) {
            EDGES.refused(Edges.FULL, "send(" + cast + ")", x -> x.send(cast), -1);
            EDGES.none(Edges.FULL, "slips(" + cast + ", 0, 0)", x -> x.slips(cast, 0, 0));
            EDGES.none(Edges.FULL, "ends(" + cast + ", 0, 0)", x -> x.ends(cast, 0, 0));
            EDGES.none(Edges.FULL, "wall(" + cast + ", 0, -1)", x -> x.wall(cast, 0, -1));
        }
        for (int cast : Edges.FAR) {
            EDGES.refused(Edges.FULL, "send(" + cast + ")", x -> x.send(cast), -1);
            EDGES.none(Edges.FULL, "slips(" + cast + ", 0, 0)", x -> x.slips(cast, 0, 0));
            EDGES.none(Edges.FULL, "ends(" + cast + ", 0, 0)", x -> x.ends(cast, 0, 0));
            EDGES.none(Edges.FULL, "wall(" + cast + ", 0, -1)", x -> x.wall(cast, 0, -1));
        }
        // Eight WHEELS at four DAIRIES on the flat: with SPEED 2 one STEP, so each THROW tells its parts.
        Edges.Scene flat = x -> {
            Edges.flat(x, 50);
            for (int i = 0; i < 8; i++) x.wheel(9, 0);
            for (int cell : new int[] {20, 29, 44, 53}) x.dairy(cell);
        };
        int[] from = {20, 29, 44, 53};
        int[] by = {-8, 1, 8, -1};
        for (int cast : new int[] {2, 12, 22, 32, 42, 122, 152, 162, 1122, 1152, 1242, 1252, 1272}) {
            int end = from[cast % 160 / 40] + by[cast % 40 / 10];
            EDGES.done(flat, "send(" + cast + ")", x -> x.send(cast), end);
            EDGES.asked(x -> {
                flat.set(x);
                x.send(cast);
            }, "of(" + cast / 160 + ", 2) behind send(" + cast + ")", x -> x.of(cast / 160, 2), 1);
        }
        // SPEED 1 does not go a STEP there, 9 goes eight: five to the edge of the MEADOW, then up.
        EDGES.done(flat, "send(11), SPEED 1", x -> x.send(11), 20);
        EDGES.done(flat, "send(13), SPEED 3", x -> x.send(13), 22);
        EDGES.done(flat, "send(1279), the last that can be told", x -> x.send(1279), 24);
    }

    private static void orderOfThrows() {
        EDGES.says("THROWS are in order of these numbers; of WHEELS that are not GONE, DAIRIES there are.");
        Edges.Scene some = x -> {
            for (int i = 0; i < 3; i++) x.wheel(9, 0);
            x.dairy(3);
            x.dairy(4);
            x.send(160 + 25);
        };
        int at = 0;
        CheesePost x = Edges.made(some);
        for (int cast = 0; cast < 480; cast++) {
            if (cast % 10 > 0 && cast / 160 != 1 && cast % 160 < 80) {
                EDGES.due("fits(" + at + ")", x.fits(at), cast);
                at++;
            }
        }
        EDGES.due("fits(NONE)", x.fits(-1), at);
        EDGES.due("fits(" + at + ")", x.fits(at), -1);
        for (int cast : new int[] {185, 85, 145, 480 + 5, 160 + 80 + 5}) {
            EDGES.none(some, "slips(" + cast + ", 1, 0)", z -> z.slips(cast, 1, 0));
        }
        EDGES.asked(some, "slips(65, 0, 0)", z -> z.slips(65, 0, 0), 1);
        EDGES.asked(some, "slips(320 + 65, 0, 0)", z -> z.slips(385, 0, 0), 1);
    }

    private static void theFirstRefusal() {
        EDGES.says("REFUSED by: -1, -2, -3, -5, -6. The first of these in that order.");
        EDGES.refused(Edges.FULL, "house(80, 0): -1 ahead of -5", x -> x.house(80, 0), -1);
        EDGES.refused(Edges.FULL, "house(35, 10): -1 ahead of -3 and -5", x -> x.house(35, 10), -1);
        EDGES.refused(Edges.FULL, "house(35, 0): -3 ahead of -5", x -> x.house(35, 0), -3);
        EDGES.refused(Edges.FULL, "dairy(80): -1 ahead of -5", x -> x.dairy(80), -1);
        EDGES.refused(Edges.FULL, "wheel(0, 0): -1 ahead of -5", x -> x.wheel(0, 0), -1);
        EDGES.refused(Edges.FULL, "wheel(1, 10): -1 ahead of -5", x -> x.wheel(1, 10), -1);
        EDGES.refused(Edges.FULL, "letter(0, 0): -1 ahead of -5", x -> x.letter(0, 0), -1);
        Edges.Scene letters = x -> {
            Edges.PAIR.set(x);
            for (int i = 0; i < 8; i++) x.letter(0, 1);
        };
        EDGES.refused(letters, "letter(1, 100): -1 ahead of -2 and -5", x -> x.letter(1, 100), -1);
        EDGES.refused(letters, "letter(1, 1): -2 ahead of -5", x -> x.letter(1, 1), -2);
        EDGES.refused(Edges.FULL, "trace(80, 1): -1 ahead of -5", x -> x.trace(80, 1), -1);
        EDGES.refused(Edges.FULL, "trace(1, 2): -1 ahead of -5", x -> x.trace(1, 2), -1);
        EDGES.refused(Edges.PAIR, "reply(1, 10): -1 ahead of -2", x -> x.reply(1, 10), -1);
        Edges.Scene sent = x -> {
            Edges.PAIR.set(x);
            x.send(25);
        };
        EDGES.refused(sent, "send(160): -1 ahead of -2", x -> x.send(160), -1);
        EDGES.refused(sent, "send(20): -1 ahead of -3", x -> x.send(20), -1);
        EDGES.refused(sent, "send(65): -2, no such DAIRY, ahead of -3", x -> x.send(65), -2);
        EDGES.refused(sent, "send(185): -2, no such WHEEL", x -> x.send(185), -2);
        EDGES.refused(sent, "send(25): -3", x -> x.send(25), -3);
        EDGES.refused(x -> x.wheel(1, 1), "send(25): -2, no DAIRY at all", x -> x.send(25), -2);
        EDGES.refused(x -> x.dairy(1), "send(25): -2, no WHEEL at all", x -> x.send(25), -2);
        EDGES.refused(Edges.BARE, "back(2): -1 ahead of -2", x -> x.back(2), -1);
        EDGES.refusedText(Edges.FULL, "no LAW", CheesePost::law, -5);
        EDGES.refusedText(Edges.FULL, "mend 80 by 1;and", CheesePost::orders, -6);
        EDGES.says("REFUSED by: -1 a number that can't be");
        taken(Edges.PAIR, "trace(1, n)", (x, n) -> x.trace(1, n), 0, 1);
        taken(Edges.PAIR, "reply(0, n)", (x, n) -> x.reply(0, n), 0, 9);
        taken(Edges.PAIR, "image(n)", (x, n) -> x.image(n), 0, 1);
        taken(Edges.FULL, "back(n)", (x, n) -> x.back(n), 0, 1);
        taken(Edges.PAIR, "summer(n, 1)", (x, n) -> x.summer(n, 1), 0, 1000000);
        taken(Edges.PAIR, "summer(1, n)", (x, n) -> x.summer(1, n), 1, 30);
    }

    private static void askedOfCells() {
        EDGES.says("Of a CELL HEIGHT (what 0), FENCE (1), the HOUSE there (2), HUNGER (3), the first DAIRY there (4). NONE (none, too).");
        Edges.Scene all = x -> {
            x.height(41, 12);
            x.fence(41, 8);
            x.house(1, 2);
            x.house(41, 6);
            x.dairy(1);
            x.dairy(41);
        };
        int[] due = {12, 8, 1, 6, 1};
        for (int i = 0; i < 5; i++) {
            int what = i;
            EDGES.asksAlone(all, "at(41, " + i + ")", x -> x.at(41, what), due[i]);
        }
        for (int what : new int[] {2, 3, 4}) EDGES.none(all, "at(40, " + what + ")", x -> x.at(40, what));
        known(all, "at(41, n)", (x, n) -> x.at(41, n), 0, 4);
    }

    private static void askedOfWheels() {
        EDGES.says("SIZE (what 0), RIPE (1), whether GONE (2) of a WHEEL. NONE.");
        known(Edges.FULL, "of(n, 0)", (x, n) -> x.of(n, 0), 0, 7);
        known(Edges.PAIR, "of(n, 0)", (x, n) -> x.of(n, 0), 0, 0);
        known(Edges.PAIR, "of(0, n)", (x, n) -> x.of(0, n), 0, 2);
        EDGES.none(Edges.BARE, "of(0, 0)", x -> x.of(0, 0));
        EDGES.asksAlone(Edges.FULL, "of(5, 2)", x -> x.of(5, 2), 1);
        EDGES.asksAlone(Edges.FULL, "of(6, 2)", x -> x.of(6, 2), 0);
    }

    private static void burning() {
        EDGES.says("LETTERS are none then: how many there were.");
        EDGES.asked(Edges.FULL, "burn()", CheesePost::burn, 8);
        EDGES.asked(Edges.BARE, "burn()", CheesePost::burn, 0);
        EDGES.asked(x -> {
            Edges.FULL.set(x);
            x.burn();
        }, "burn() again", CheesePost::burn, 0);
        EDGES.asked(x -> {
            Edges.FULL.set(x);
            x.burn();
        }, "post(3)", x -> x.post(3), -1);
        EDGES.alike("burn() and eight others", x -> {
            Edges.FULL.set(x);
            x.burn();
            for (int i = 0; i < 8; i++) x.letter(i % 5, 10 + i);
        }, Edges.FULL, "");
    }

    private static void feeding() {
        EDGES.says("Twenty bytes come behind the TAPE, four of each number, the highest first: how many it has.");
        EDGES.asked(Edges.BARE, "feed()", x -> x.feed(0, 0, 0, 0, 0), 20);
        CheesePost bytes = new CheesePost();
        // y 1 and HEIGHTS 2 .. 9, of them none by sign: 0xff is 255.
        bytes.feed(0x01020304, 0x05060708, 0x09ff0a0b, -1, Integer.MIN_VALUE);
        EDGES.due("row()", bytes.row(), 8);
        EDGES.due("crumbs()", bytes.crumbs(), 11);
        for (int i = 0; i < 8; i++) EDGES.due("at(" + (8 + i) + ", 0)", bytes.at(8 + i, 0), 2 + i);
        bytes.end(0);
        bytes.feed(0x02ff00fe, 0xff0063ff, 0x64ff0000, 0, 0);
        EDGES.due("end(10)", bytes.end(10), 10);
        EDGES.due("row() of high bytes", bytes.row(), 3);
        EDGES.due("at(17, 0)", bytes.at(17, 0), 0);
        EDGES.due("at(20, 0)", bytes.at(20, 0), 0);
        EDGES.due("at(21, 0)", bytes.at(21, 0), 99);
        // The last of five numbers, and the second twenty behind the first.
        Edges.Scene two = x -> {
            x.feed(0x20202020, 0x20202020, 0x20202020, 0x20202020, 0x20207368);
            x.feed(0x75747320, 0x20202020, 0x20202020, 0x20202020, 0x20202021);
        };
        EDGES.asked(two, "law() of \"shuts\" over the edge of two feeds", CheesePost::law, -6);
        EDGES.asked(x -> {
            two.set(x);
            x.law();
        }, "fault()", CheesePost::fault, 39);
        EDGES.says("NONE, if there would be more than 400.");
        Edges.Scene full = x -> {
            for (int i = 1; i <= 20; i++) EDGES.due("feed()", x.feed(0x09010101, 0x01010101, 0x01010101, 0x01010101, i), 20 * i);
        };
        EDGES.none(full, "feed(), the 21st", x -> x.feed(1, 1, 1, 1, 1));
        for (int n : new int[] {399, 390, 381}) {
            Edges.Scene cut = x -> {
                full.set(x);
                x.end(n);
            };
            EDGES.none(cut, "feed() behind end(" + n + ")", x -> x.feed(1, 1, 1, 1, 1));
        }
        EDGES.asked(x -> {
            full.set(x);
            x.end(380);
        }, "feed() behind end(380)", x -> x.feed(1, 1, 1, 1, 1), 400);
    }

    private static void ending() {
        EDGES.says("The TAPE has its first n bytes alone: n. NONE, if it has not so many, or n is below 0.");
        Edges.Scene six = x -> Edges.put(x, "shutsx");
        EDGES.none(six, "end(-1)", x -> x.end(-1));
        EDGES.none(six, "end(7)", x -> x.end(7));
        for (int n : Edges.FAR) EDGES.none(six, "end(" + n + ")", x -> x.end(n));
        EDGES.none(Edges.BARE, "end(1) of an empty one", x -> x.end(1));
        EDGES.asked(Edges.BARE, "end(0) of an empty one", x -> x.end(0), 0);
        EDGES.asked(six, "end(0)", x -> x.end(0), 0);
        EDGES.asksAlone(six, "end(6), all it has", x -> x.end(6), 6);
        EDGES.asked(six, "end(5)", x -> x.end(5), 5);
        EDGES.done(x -> {
            six.set(x);
            x.end(5);
        }, "law() of the first five", CheesePost::law, 0);
        EDGES.none(x -> {
            six.set(x);
            x.end(5);
        }, "end(6) of five", x -> x.end(6));
        CheesePost x = new CheesePost();
        for (int i = 0; i < 20; i++) x.feed(0, 0, 0, 0, 0);
        EDGES.due("end(401) of 400", x.end(401), -1);
        EDGES.due("end(400) of 400", x.end(400), 400);
    }

    private static Edges.Scene onTape(int... bytes) {
        return x -> Edges.put(x, Edges.bytes(bytes));
    }

    private static void rows() {
        EDGES.says("-6 the TAPE is empty, no such y.");
        EDGES.refusedText(Edges.FULL, "", CheesePost::row, -6);
        for (int y : new int[] {10, 11, 100, 128, 255}) {
            EDGES.refusedText(Edges.FULL, Edges.bytes(y, 1, 2, 3), CheesePost::row, -6);
        }
        for (int y = 0; y < 10; y++) {
            Edges.Scene told = onTape(y, 1, 2, 3, 4, 5, 6, 7, 8);
            EDGES.done(told, "row() of y " + y, CheesePost::row, 8);
            CheesePost x = Edges.made(told);
            x.row();
            for (int cell = 0; cell < 80; cell++) {
                EDGES.due("at(" + cell + ", 0) behind row() of y " + y, x.at(cell, 0),
                        cell / 8 == y ? cell % 8 + 1 : 90 - 10 * (cell / 8));
            }
        }
        EDGES.says("the TAPE is empty then");
        EDGES.asked(x -> {
            onTape(0, 1, 2).set(x);
            x.row();
        }, "count(9)", x -> x.count(9), 0);
        EDGES.says("the TAPE's first byte is y, then HEIGHTS from x 0 on; others leave a CELL as it was");
        EDGES.done(onTape(4), "row() of a y alone", CheesePost::row, 0);
        EDGES.done(onTape(4, 0), "row() of HEIGHT 0", CheesePost::row, 1);
        EDGES.done(onTape(4, 99), "row() of HEIGHT 99", CheesePost::row, 1);
        EDGES.done(onTape(4, 100), "row() of 100", CheesePost::row, 0);
        EDGES.done(onTape(4, 255), "row() of 255", CheesePost::row, 0);
        EDGES.done(onTape(4, 1, 2, 3, 4, 5, 6, 7, 8, 9), "row() of nine", CheesePost::row, 8);
        EDGES.done(onTape(4, 1, 100, 3, 100, 5, 100, 7, 100), "row() of four and four", CheesePost::row, 4);
        CheesePost x = Edges.made(onTape(4, 1, 100, 3, 255, 5, 100, 7, 100, 9));
        x.row();
        int[] due = {1, 50, 3, 50, 5, 50, 7, 50, 40};
        for (int i = 0; i < due.length; i++) EDGES.due("at(" + (32 + i) + ", 0)", x.at(32 + i, 0), due[i]);
        // The ninth of y 9 is not a CELL.
        EDGES.done(onTape(9, 1, 2, 3, 4, 5, 6, 7, 8, 9, 10), "row() beyond the last CELL", CheesePost::row, 8);
    }

    private static void crumbs() {
        EDGES.says("those and bytes beyond x 7 are CRUMBS");
        int[][] all = {{4}, {4, 99}, {4, 100}, {4, 255, 255}, {4, 1, 2, 3, 4, 5, 6, 7, 8}, {4, 1, 2, 3, 4, 5, 6, 7, 8, 9},
            {4, 1, 2, 3, 4, 5, 6, 7, 100, 9}, {4, 1, 2, 3, 4, 5, 6, 7, 8, 100}};
        int[] due = {0, 0, 1, 2, 0, 1, 2, 1};
        for (int i = 0; i < all.length; i++) {
            int[] bytes = all[i];
            EDGES.asked(x -> {
                onTape(bytes).set(x);
                x.row();
            }, "crumbs() of row " + i, CheesePost::crumbs, due[i]);
        }
        CheesePost full = new CheesePost();
        for (int i = 0; i < 20; i++) full.feed(0, 0, 0, 0, 0);
        EDGES.due("row() of a full TAPE", full.row(), 8);
        EDGES.due("crumbs() of a full TAPE", full.crumbs(), 391);
        EDGES.says("How many CRUMBS the latest row() had that was not REFUSED (0 ahead of any).");
        EDGES.asksAlone(Edges.BARE, "crumbs() ahead of any", CheesePost::crumbs, 0);
        EDGES.asked(x -> x.row(), "crumbs() behind one REFUSED", CheesePost::crumbs, 0);
        Edges.Scene two = x -> {
            onTape(4, 100, 100).set(x);
            x.row();
        };
        EDGES.asked(two, "crumbs()", CheesePost::crumbs, 2);
        EDGES.asked(x -> {
            two.set(x);
            x.row();
        }, "crumbs() behind an empty TAPE", CheesePost::crumbs, 2);
        EDGES.asked(x -> {
            two.set(x);
            onTape(10, 1, 100).set(x);
            x.row();
        }, "crumbs() behind y 10", CheesePost::crumbs, 2);
        EDGES.asked(x -> {
            two.set(x);
            onTape(4, 1).set(x);
            x.row();
        }, "crumbs() behind one without", CheesePost::crumbs, 0);
    }

    private static void theLastCall() {
        EDGES.says("An object is used for at most 512 calls after it has been made");
        CheesePost x = Edges.made(Edges.PAIR);
        for (int i = 3; i < 511; i++) x.height(i % 80, 90 - 10 * (i % 80 / 8));
        EDGES.due("the 512th call", x.roll(3, 2, 5, 0, 0), 35);
        CheesePost z = new CheesePost();
        for (int i = 0; i < 511; i++) z.height(80, 0);
        EDGES.due("count(10) as the 512th call", z.count(10), 511);
        CheesePost asked = Edges.made(Edges.PAIR);
        for (int i = 3; i < 511; i++) asked.sure(0, 1, 0);
        EDGES.due("sure() as the 512th call", asked.sure(0, 1, 2), 5);
    }
}
