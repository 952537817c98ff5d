/** The sentences on RINDS, REPLIES, SUMMERS, IMAGES and what is counted that name an edge, with the promises 37 to 47. */
public final class EdgesOfTheRestTest {
    private static final Edges EDGES = new Edges();
    private static final int[] OFF_RIND = {-1, 97, 98, -97, Integer.MIN_VALUE, Integer.MAX_VALUE};
    private static final int[] NO_RIND = {0, -1, 6, 7, Integer.MIN_VALUE, Integer.MAX_VALUE};

    public static void main(String[] args) {
        sharing();
        reading();
        theOddOne();
        replies();
        loads();
        ways();
        firstTrips();
        seeds();
        throwsOfSummers();
        slipsOfSummers();
        fencesOfSummers();
        summersOfNone();
        drawnEnds();
        imagesKept();
        imagesKeepNot();
        backToThem();
        counts();
        refusalsCounted();
        status();
        EDGES.end();
    }

    private static void sharing() {
        EDGES.says("a SECRET 0 .. 96 with two numbers a, b 0 .. 96 is on RIND k 1 .. 5 as the rest of SECRET and a times k and b times k times k, by 97");
        for (int n : OFF_RIND) {
            EDGES.none(Edges.PAIR, "share(" + n + ", 1, 1, 1)", x -> x.share(n, 1, 1, 1));
            EDGES.none(Edges.PAIR, "share(1, " + n + ", 1, 1)", x -> x.share(1, n, 1, 1));
            EDGES.none(Edges.PAIR, "share(1, 1, " + n + ", 1)", x -> x.share(1, 1, n, 1));
        }
        for (int n : NO_RIND) EDGES.none(Edges.PAIR, "share(1, 1, 1, " + n + ")", x -> x.share(1, 1, 1, n));
        int[][] due = {{0, 0, 0, 1, 0}, {96, 0, 0, 1, 96}, {0, 96, 0, 1, 96}, {0, 0, 96, 1, 96}, {96, 1, 0, 1, 0}, {96, 0, 1, 1, 0},
            {96, 1, 1, 1, 1}, {96, 96, 96, 1, 94}, {96, 96, 96, 5, 66}, {0, 96, 0, 5, 92}, {0, 0, 96, 5, 72}, {0, 0, 1, 5, 25},
            {0, 1, 0, 5, 5}, {47, 5, 1, 5, 0}, {46, 5, 1, 5, 96}};
        for (int[] d : due) {
            EDGES.asksAlone(Edges.BARE, "share(" + d[0] + ", " + d[1] + ", " + d[2] + ", " + d[3] + ")",
                    x -> x.share(d[0], d[1], d[2], d[3]), d[4]);
        }
    }

    private static int on(int secret, int a, int b, int k) {
        return (secret + a * k + b * k * k) % 97;
    }

    private static void reading() {
        EDGES.says("Three unlike RINDS tell the SECRET. NONE (RINDS 1 .. 5 unlike, 0 .. 96 on them).");
        int[][] secrets = {{0, 0, 0}, {96, 96, 96}, {96, 0, 0}, {0, 96, 96}, {1, 0, 96}, {50, 96, 0}, {96, 1, 96}};
        for (int[] s : secrets) {
            CheesePost x = new CheesePost();
            for (int k = 1; k <= 5; k++) for (int m = 1; m <= 5; m++) for (int n = 1; n <= 5; n++) {
                boolean unlike = k != m && m != n && k != n;
                EDGES.due("read() of " + s[0] + " by " + k + ", " + m + ", " + n,
                        x.read(k, on(s[0], s[1], s[2], k), m, on(s[0], s[1], s[2], m), n, on(s[0], s[1], s[2], n)), unlike ? s[0] : -1);
            }
        }
        // Whatever is on three, there is one SECRET of it.
        int[][] any = {{0, 0, 1}, {96, 0, 0}, {0, 96, 0}, {96, 96, 0}, {0, 0, 96}};
        for (int[] a : any) {
            int found = -1;
            for (int s = 0; s < 97; s++) for (int p = 0; p < 97; p++) for (int q = 0; q < 97; q++) {
                if (on(s, p, q, 1) == a[0] && on(s, p, q, 3) == a[1] && on(s, p, q, 5) == a[2]) found = s;
            }
            int due = found;
            EDGES.asksAlone(Edges.BARE, "read() of any", x -> x.read(1, a[0], 3, a[1], 5, a[2]), due);
            EDGES.asksAlone(Edges.BARE, "read() of any, in another order", x -> x.read(5, a[2], 1, a[0], 3, a[1]), due);
        }
        for (int n : NO_RIND) {
            EDGES.none(Edges.PAIR, "read(" + n + ", ..)", x -> x.read(n, 1, 2, 1, 3, 1));
            EDGES.none(Edges.PAIR, "read(.., " + n + ", ..)", x -> x.read(1, 1, n, 1, 3, 1));
            EDGES.none(Edges.PAIR, "read(.., .., " + n + ", ..)", x -> x.read(1, 1, 2, 1, n, 1));
        }
        for (int n : OFF_RIND) {
            EDGES.none(Edges.PAIR, "read(1, " + n + ", ..)", x -> x.read(1, n, 2, 1, 3, 1));
            EDGES.none(Edges.PAIR, "read(.., 2, " + n + ", ..)", x -> x.read(1, 1, 2, n, 3, 1));
            EDGES.none(Edges.PAIR, "read(.., .., 3, " + n + ")", x -> x.read(1, 1, 2, 1, 3, n));
        }
    }

    private static void theOddOne() {
        EDGES.says("Of five the ODD one is that without which the others are from one SECRET, a and b. 1 .. 5; 0 none: all are from one. NONE (none can be left out so).");
        int[][] secrets = {{0, 0, 0}, {96, 96, 96}, {42, 3, 5}, {0, 96, 1}};
        for (int[] s : secrets) {
            int[] all = new int[6];
            for (int k = 1; k <= 5; k++) all[k] = on(s[0], s[1], s[2], k);
            EDGES.asksAlone(Edges.BARE, "odd() of all right", x -> x.odd(all[1], all[2], all[3], all[4], all[5]), 0);
            for (int k = 1; k <= 5; k++) {
                for (int by : new int[] {1, 48, 96}) {
                    int[] lie = all.clone();
                    lie[k] = (lie[k] + by) % 97;
                    EDGES.asked(Edges.BARE, "odd() of a lie on " + k, x -> x.odd(lie[1], lie[2], lie[3], lie[4], lie[5]), k);
                }
                for (int m = k + 1; m <= 5; m++) {
                    int[] lies = all.clone();
                    lies[k] = (lies[k] + 1) % 97;
                    lies[m] = (lies[m] + 1) % 97;
                    EDGES.asked(Edges.BARE, "odd() of lies on " + k + " and " + m, x -> x.odd(lies[1], lies[2], lies[3], lies[4], lies[5]),
                            oddOf(lies));
                }
            }
        }
        for (int n : OFF_RIND) {
            EDGES.none(Edges.PAIR, "odd(" + n + ", ..)", x -> x.odd(n, 0, 0, 0, 0));
            EDGES.none(Edges.PAIR, "odd(.., " + n + ", ..)", x -> x.odd(0, n, 0, 0, 0));
            EDGES.none(Edges.PAIR, "odd(.., .., " + n + ", ..)", x -> x.odd(0, 0, n, 0, 0));
            EDGES.none(Edges.PAIR, "odd(.., " + n + ", 0)", x -> x.odd(0, 0, 0, n, 0));
            EDGES.none(Edges.PAIR, "odd(.., " + n + ")", x -> x.odd(0, 0, 0, 0, n));
        }
        EDGES.none(Edges.PAIR, "odd(0, 0, 1, 0, 1)", x -> x.odd(0, 0, 1, 0, 1));
        EDGES.asked(Edges.BARE, "odd(96, 96, 96, 96, 96)", x -> x.odd(96, 96, 96, 96, 96), 0);
    }

    /** The ODD one by trying all SECRETS. */
    private static int oddOf(int[] all) {
        int odd = -1;
        for (int s = 0; s < 97; s++) for (int a = 0; a < 97; a++) for (int b = 0; b < 97; b++) {
            int wrong = 0;
            int which = 0;
            for (int k = 1; k <= 5 && wrong < 2; k++) {
                if (on(s, a, b, k) != all[k]) {
                    wrong++;
                    which = k;
                }
            }
            if (wrong < 2) odd = which;
            if (wrong == 0) return 0;
        }
        return odd;
    }

    private static void replies() {
        EDGES.says("a HOUSE has some of a weight 0 .. 9 (0 at first). REPLIES at a HOUSE: the weight that was. -1; -2.");
        EDGES.done(Edges.PAIR, "reply(0, 9)", x -> x.reply(0, 9), 0);
        EDGES.done(x -> {
            Edges.PAIR.set(x);
            x.reply(0, 9);
        }, "reply(0, 0)", x -> x.reply(0, 0), 9);
        EDGES.done(Edges.FULL, "reply(7, 0)", x -> x.reply(7, 0), 7);
        for (int n : new int[] {-1, 10, Integer.MIN_VALUE, Integer.MAX_VALUE}) {
            EDGES.refused(Edges.PAIR, "reply(0, " + n + ")", x -> x.reply(0, n), -1);
            EDGES.refused(Edges.BARE, "reply(0, " + n + ") without HOUSES", x -> x.reply(0, n), -1);
        }
        EDGES.refused(Edges.PAIR, "reply(1, 5)", x -> x.reply(1, 5), -2);
        EDGES.refused(Edges.BARE, "reply(0, 5)", x -> x.reply(0, 5), -2);
        EDGES.refused(Edges.BARE, "reply(7, 0)", x -> x.reply(7, 0), -2);
    }

    /** HOUSES in a row to the right of a DAIRY at 0, one CELL from another, with so much each. */
    private static Edges.Scene inRow(int load, int... weights) {
        return x -> {
            x.dairy(0);
            x.terms(2, load);
            for (int i = 0; i < weights.length; i++) {
                x.house(i < 7 ? i + 1 : 8, 0);
                x.reply(i, weights[i]);
            }
        };
    }

    private static void trips(Edges.Scene scene, String how, int fewest, int way, int houses) {
        EDGES.asksAlone(scene, how + ", trips(0, 0)", x -> x.trips(0, 0), fewest);
        EDGES.asksAlone(scene, how + ", trips(0, 1)", x -> x.trips(0, 1), way);
        EDGES.asksAlone(scene, how + ", trips(0, 2)", x -> x.trips(0, 2), houses);
    }

    private static void loads() {
        EDGES.says("TRIPS from a DAIRY to HOUSES that have some and back, each with LOAD at most: the fewest");
        trips(inRow(10), "no HOUSES", 0, 0, 0);
        trips(inRow(10, 0, 0), "HOUSES without REPLIES", 0, 0, 0);
        trips(inRow(1, 1), "LOAD 1, weight 1", 1, 2, 1);
        trips(inRow(9, 9), "LOAD 9, weight 9", 1, 2, 1);
        trips(inRow(8, 9), "LOAD 8, weight 9", -1, -1, -1);
        trips(inRow(8, 9, 1), "LOAD 8, weights 9 and 1", -1, -1, -1);
        trips(inRow(8, 1, 9), "LOAD 8, weights 1 and 9", -1, -1, -1);
        trips(inRow(10, 5, 5), "LOAD 10, weights 5 and 5", 1, 4, 3);
        trips(inRow(9, 5, 5), "LOAD 9, weights 5 and 5", 2, 6, 1);
        trips(inRow(10, 5, 6), "LOAD 10, weights 5 and 6", 2, 6, 1);
        trips(inRow(60, 9, 9, 9, 9, 9, 9, 6), "LOAD 60, 60 together", 1, 14, 127);
        trips(inRow(59, 9, 9, 9, 9, 9, 9, 6), "LOAD 59, 60 together", 2, 16, 1);
        trips(inRow(60, 9, 9, 9, 9, 9, 9, 7), "LOAD 60, 61 together", 2, 16, 1);
        trips(inRow(60, 9, 9, 9, 9, 9, 9, 9, 9), "LOAD 60, eight of 9", 2, 4 + 14, 1 + 128);
        trips(inRow(9, 9, 9, 9, 9, 9, 9, 9, 9), "LOAD 9, eight of 9", 8, 2 * (1 + 2 + 3 + 4 + 5 + 6 + 7 + 1), 1);
        trips(inRow(1, 0, 0, 0, 0, 0, 0, 1, 1), "LOAD 1, the last two of eight", 2, 16, 64);
        EDGES.says("TRIPS from a DAIRY. NONE.");
        Edges.Scene one = inRow(10, 5);
        for (int n : new int[] {-1, 1, 4, Integer.MIN_VALUE, Integer.MAX_VALUE}) EDGES.none(one, "trips(" + n + ", 0)", x -> x.trips(n, 0));
        for (int n : new int[] {-1, 3, Integer.MIN_VALUE, Integer.MAX_VALUE}) EDGES.none(one, "trips(0, " + n + ")", x -> x.trips(0, n));
        for (int n = 0; n < 3; n++) {
            int what = n;
            EDGES.none(Edges.BARE, "trips(0, " + n + ") without a DAIRY", x -> x.trips(0, what));
        }
        EDGES.asked(Edges.FULL, "whether trips(3, 0) is known", x -> x.trips(3, 0) > 0 ? 1 : 0, 1);
        EDGES.none(Edges.FULL, "trips(4, 0)", x -> x.trips(4, 0));
    }

    private static void ways() {
        EDGES.says("then the least WAY together (STEPS between CELLS, |x| and |y|)");
        Edges.Scene corners = x -> {
            x.dairy(0);
            x.dairy(79);
            x.dairy(36);
            x.house(7, 0);
            x.house(72, 0);
            x.house(79, 0);
            for (int i = 0; i < 3; i++) x.reply(i, 3);
        };
        trips(corners, "three corners from the fourth", 1, 2 * (7 + 9), 7);
        EDGES.asksAlone(corners, "from a corner where a HOUSE is", x -> x.trips(1, 1), 2 * (7 + 9));
        EDGES.asksAlone(corners, "from the middle", x -> x.trips(2, 1), 7 + 9 + 7 + 9);
        Edges.Scene here = x -> {
            x.dairy(0);
            x.house(0, 0);
            x.reply(0, 1);
        };
        trips(here, "a HOUSE where the DAIRY is", 1, 0, 1);
        trips(x -> {
            x.dairy(0);
            x.house(79, 0);
            x.reply(0, 1);
        }, "from corner to corner", 1, 32, 1);
        // Two by two: those beside one another go together.
        trips(x -> {
            x.dairy(0);
            x.terms(2, 10);
            int[] cells = {7, 72, 6, 64};
            for (int i = 0; i < 4; i++) {
                x.house(cells[i], 0);
                x.reply(i, 5);
            }
        }, "two by two", 2, 14 + 18, 1 + 4);
        // The fewest are ahead of the least WAY.
        trips(x -> {
            x.dairy(36);
            x.terms(2, 10);
            x.house(32, 0);
            x.house(39, 0);
            x.reply(0, 5);
            x.reply(1, 5);
        }, "one TRIP to both sides", 1, 4 + 7 + 3, 3);
    }

    private static void firstTrips() {
        EDGES.says("the HOUSES of the trip to the lowest one, as bits, the lowest such (2; 0 without)");
        // A DAIRY in the midst of alike HOUSES: 0 alone, or with 1, or with 2 is as far.
        Edges.Scene three = x -> {
            x.dairy(0);
            x.terms(2, 10);
            x.house(8, 0);
            x.house(16, 0);
            x.house(24, 0);
            x.reply(0, 5);
            x.reply(1, 5);
            x.reply(2, 5);
        };
        // 0 with 1 and 2 alone: 4 and 6; 0 with 2 and 1 alone: 6 and 4; 0 alone, 1 with 2: 2 and 6, the least.
        trips(three, "0 alone is the least WAY", 2, 8, 1);
        trips(x -> {
            three.set(x);
            x.house(1, 0);
            x.reply(3, 5);
        }, "four by two: 0 with 3, or with 1", 2, 4 + 6, 9);
        Edges.Scene star = x -> {
            x.dairy(36);
            x.terms(2, 9);
            int[] cells = {35, 37, 28, 44};
            for (int i = 0; i < 4; i++) {
                x.house(cells[i], 0);
                x.reply(i, i == 0 ? 3 : 2);
            }
        };
        trips(star, "all in one", 1, 1 + 2 + 2 + 2 + 1, 15);
        trips(x -> {
            star.set(x);
            x.terms(2, 7);
        }, "two TRIPS, as far each way: 0 alone is the lowest", 2, 8, 1);
        trips(x -> {
            star.set(x);
            x.terms(2, 5);
        }, "two TRIPS, 0 with one: with 1 is the lowest", 2, 8, 3);
        trips(x -> {
            star.set(x);
            x.reply(0, 0);
        }, "the lowest that has some is 1", 1, 6, 14);
        trips(x -> {
            star.set(x);
            x.reply(0, 0);
            x.reply(1, 0);
            x.reply(2, 0);
        }, "the last alone", 1, 2, 8);
    }

    /** DRAWS as the document tells them. */
    private static final class Draws {
        private long s;

        Draws(int seed) {
            s = seed;
        }

        int of(int m) {
            s = (s * 1103 + 12345) % 1000003;
            return (int) (s % m);
        }
    }

    private static final int[] COLUMNS = {0, 2, 4, 7};

    /** DAIRIES at y 9 with all high around: each THROW is in the VALLEY by its first STEP, so ENDS tell which was drawn. */
    private static Edges.Scene atTheFoot(int wheels, int dairies) {
        return x -> {
            x.terms(1, 0);
            x.terms(3, 0);
            for (int i = 0; i < wheels; i++) x.wheel(1, 0);
            for (int c = 0; c < 8; c++) {
                x.height(64 + c, 60);
                x.height(72 + c, 60);
            }
            for (int i = 0; i < dairies; i++) {
                x.dairy(72 + COLUMNS[i]);
                x.height(72 + COLUMNS[i], 9);
            }
        };
    }

    private static void drawnAsDue(int seed, int n, int wheels, int dairies) {
        int[] due = new int[108];
        Draws draws = new Draws(seed);
        for (int i = 0; i < n; i++) {
            draws.of(wheels);
            due[100 + COLUMNS[draws.of(dairies)]]++;
            draws.of(4);
            draws.of(9);
            draws.of(10);
        }
        CheesePost x = Edges.made(atTheFoot(wheels, dairies));
        EDGES.due("summer(" + seed + ", " + n + ")", x.summer(seed, n), 0);
        for (int end = 0; end < 108; end = end == 79 ? 100 : end + 1) {
            EDGES.due("drawn(" + end + ") behind summer(" + seed + ", " + n + ")", x.drawn(end), due[end]);
        }
    }

    /** A SEED by which the first DRAW makes s so much. */
    private static int seedTo(int s) {
        for (int seed = 0; seed <= 1000000; seed++) {
            if ((seed * 1103L + 12345) % 1000003 == s) return seed;
        }
        return 0;
    }

    private static void seeds() {
        EDGES.says("s is the SEED (0 .. 1,000,000); a DRAW of m: s becomes (s times 1103 and 12345) modulo 1,000,003, it is s modulo m.");
        for (int seed : new int[] {0, 1, 895, 896, 500000, 999999, 1000000}) {
            for (int wheels : new int[] {1, 7, 8}) {
                for (int dairies = 1; dairies <= 4; dairies++) drawnAsDue(seed, 30, wheels, dairies);
            }
        }
        // Where s wraps around to 0, or to the highest that it can be.
        for (int s : new int[] {0, 1, 1000000, 1000001, 1000002}) drawnAsDue(seedTo(s), 30, 3, 4);
        for (int n : new int[] {-1, 1000001, 1000002, 1000003, Integer.MIN_VALUE, Integer.MAX_VALUE}) {
            EDGES.refused(Edges.FULL, "summer(" + n + ", 1)", x -> x.summer(n, 1), -1);
        }
        EDGES.says("A SUMMER, n 1 .. 30, kept as the latest: how many came to HOUSES. -1.");
        for (int n = 1; n <= 30; n++) drawnAsDue(7, n, 8, 4);
        for (int n : new int[] {0, -1, 31, Integer.MIN_VALUE, Integer.MAX_VALUE}) {
            EDGES.refused(Edges.FULL, "summer(1, " + n + ")", x -> x.summer(1, n), -1);
        }
        Edges.Scene housed = x -> {
            x.wheel(1, 0);
            x.dairy(3);
            x.terms(3, 0);
            x.house(35, 0);
        };
        EDGES.done(housed, "summer(5, 30), all come", x -> x.summer(5, 30), 30);
        EDGES.done(x -> {
            housed.set(x);
            Edges.under(x, "eats");
        }, "summer(5, 30), all EATEN", x -> x.summer(5, 30), 30);
        EDGES.done(x -> {
            housed.set(x);
            x.send(25);
        }, "summer(5, 30) of one GONE", x -> x.summer(5, 30), 30);
        EDGES.asked(x -> {
            housed.set(x);
            x.summer(5, 30);
        }, "came(0, 0), on paper", x -> x.came(0, 0), 0);
        EDGES.asked(x -> {
            housed.set(x);
            x.summer(5, 30);
        }, "of(0, 2), on paper", x -> x.of(0, 2), 0);
        EDGES.asked(x -> {
            housed.set(x);
            x.summer(5, 30);
            x.house(19, 0);
            x.summer(5, 4);
        }, "drawn(35), the latest alone", x -> x.drawn(35), 0);
        // What stays where a HOUSE is did not come to it.
        EDGES.done(x -> {
            housed.set(x);
            x.house(3, 0);
            Edges.under(x, "shuts");
        }, "summer(5, 30), all stay", x -> x.summer(5, 30), 0);
        EDGES.asked(x -> {
            housed.set(x);
            Edges.under(x, "shuts");
            x.summer(5, 30);
        }, "drawn(3), all stay", x -> x.drawn(3), 30);
    }

    /** On the flat from 36: one STEP as it was thrown, if it is fast enough, by WHEELS of RIPE 0 alone. */
    private static void throwsOfSummers() {
        EDGES.says("Each time DRAWS of WHEELS (GONE or not), of DAIRIES, of 4 DIRECTIONS, of 9 (SPEED, less 1)");
        int[] to = {28, 37, 44, 35};
        for (int seed = 0; seed < 30; seed++) {
            for (int slowed : new int[] {0, 1, 5, 8, 9}) {
                int[] due = new int[108];
                Draws draws = new Draws(seed);
                for (int i = 0; i < 30; i++) {
                    boolean rolls = draws.of(3) != 1;
                    draws.of(1);
                    int direction = draws.of(4);
                    int speed = draws.of(9) + 1;
                    rolls &= speed - slowed >= 1;
                    // The STEP, and one more that is not made.
                    for (int step = 0; step < (rolls ? 2 : 1); step++) draws.of(10);
                    due[rolls ? to[direction] : 36]++;
                }
                CheesePost x = Edges.made(y -> {
                    Edges.flat(y, 50);
                    for (int i = 0; i < 3; i++) y.wheel(1, i % 2);
                    y.dairy(36);
                    y.send(5);
                    y.send(165);
                    y.terms(3, 0);
                    Edges.under(y, "slows 99;slows " + slowed + " if x=4 and y=4;slows 99 if ripe=1");
                });
                EDGES.due("summer(" + seed + ", 30), slowed " + slowed, x.summer(seed, 30), 0);
                for (int end : new int[] {28, 37, 44, 35, 36}) {
                    EDGES.due("drawn(" + end + ") of " + seed + ", slowed " + slowed, x.drawn(end), due[end]);
                }
            }
        }
    }

    /** One THROW down a corridor of one CELL to a fork: the DRAW ahead of each STEP tells where it goes. */
    private static void slipsOfSummers() {
        EDGES.says("each STEP a DRAW of 10: below SLIP it slips (if it can; the DRAW is made ahead of each STEP, also of one that it then does not make)");
        for (int slip : new int[] {0, 1, 5, 9}) {
            for (int seed = 0; seed < 40; seed++) {
                int[] due = new int[108];
                Draws draws = new Draws(seed);
                for (int i = 0; i < 5; i++) {
                    draws.of(1);
                    draws.of(1);
                    draws.of(4);
                    draws.of(9);
                    // From 64 one STEP down to 72 (no other is open); there down to the VALLEY, by a SLIP right to the HOUSE.
                    draws.of(10);
                    boolean slips = draws.of(10) < slip;
                    due[slips ? 73 : 100]++;
                }
                CheesePost x = Edges.made(y -> {
                    y.wheel(1, 0);
                    y.dairy(64);
                    y.house(73, 0);
                    y.terms(3, slip);
                    y.height(72, 9);
                    Edges.under(y, "slows 0;shuts if y<9 or x>1");
                });
                EDGES.due("summer(" + seed + ", 5), SLIP " + slip, x.summer(seed, 5), due[73]);
                EDGES.due("drawn(73)", x.drawn(73), due[73]);
                EDGES.due("drawn(100)", x.drawn(100), due[100]);
            }
        }
        // Where none is open to it behind its first STEP (it is too fast), it stays, also if it was to slip.
        for (int seed = 0; seed < 40; seed++) {
            int[] due = new int[2];
            Draws draws = new Draws(seed);
            for (int i = 0; i < 10; i++) {
                for (int m : new int[] {1, 1, 4, 9}) draws.of(m);
                due[draws.of(10) < 5 ? 1 : 0]++;
                draws.of(10);
            }
            CheesePost x = Edges.made(y -> {
                Edges.flat(y, 50);
                y.wheel(1, 0);
                y.terms(1, 0);
                y.terms(3, 5);
                y.dairy(36);
                y.height(36, 99);
                Edges.under(y, "slows 0;shuts if speed>20");
            });
            EDGES.due("summer(" + seed + ", 10), all SHUT behind a STEP", x.summer(seed, 10), 0);
            EDGES.due("drawn(28)", x.drawn(28), due[0]);
            EDGES.due("drawn(37)", x.drawn(37), due[1]);
        }
        // Where it stays, one DRAW was made for the STEP that it does not make.
        for (int seed = 0; seed < 40; seed++) {
            int[] due = new int[2];
            Draws draws = new Draws(seed);
            for (int i = 0; i < 30; i++) {
                draws.of(1);
                due[draws.of(2)]++;
                draws.of(4);
                draws.of(9);
                draws.of(10);
            }
            CheesePost x = Edges.made(y -> {
                y.wheel(1, 0);
                y.dairy(0);
                y.dairy(7);
                Edges.under(y, "shuts");
            });
            EDGES.due("summer(" + seed + ", 30), all SHUT", x.summer(seed, 30), 0);
            EDGES.due("drawn(0)", x.drawn(0), due[0]);
            EDGES.due("drawn(7)", x.drawn(7), due[1]);
        }
    }

    private static void fencesOfSummers() {
        EDGES.says("FENCES broken stay so in it.");
        Edges.Scene stopped = x -> {
            x.wheel(1, 0);
            x.wheel(9, 0);
            x.dairy(3);
            x.terms(3, 0);
            x.house(19, 0);
            x.fence(11, 9);
        };
        // WHEEL 0 is stopped by the FENCE until WHEEL 1 broke it.
        for (int seed = 0; seed < 40; seed++) {
            Draws draws = new Draws(seed);
            boolean broken = false;
            int due = 0;
            for (int i = 0; i < 6; i++) {
                int wheel = draws.of(2);
                draws.of(1);
                draws.of(4);
                draws.of(9);
                broken |= wheel == 1;
                if (broken) due++;
                for (int step = 0; step < (broken ? 2 : 1); step++) draws.of(10);
            }
            int came = due;
            int of = seed;
            EDGES.done(stopped, "summer(" + seed + ", 6)", x -> x.summer(of, 6), came);
            EDGES.done(x -> {
                stopped.set(x);
                x.summer(of, 6);
            }, "summer(" + seed + ", 6) again", x -> x.summer(of, 6), came);
            EDGES.asked(x -> {
                stopped.set(x);
                x.summer(of, 6);
            }, "at(11, 1) behind summer(" + seed + ", 6)", x -> x.at(11, 1), 9);
        }
    }

    private static void summersOfNone() {
        EDGES.says("(Without WHEELS or DAIRIES: none.)");
        Edges.Scene[] without = {Edges.BARE, x -> x.wheel(1, 1), x -> x.dairy(1)};
        for (Edges.Scene scene : without) {
            for (int n : new int[] {1, 30}) EDGES.done(scene, "summer(5, " + n + ") of none", x -> x.summer(5, n), 0);
            for (int end : new int[] {0, 1, 79, 100, 107}) {
                EDGES.asked(x -> {
                    scene.set(x);
                    x.summer(5, 30);
                }, "drawn(" + end + ") of none", x -> x.drawn(end), 0);
            }
            EDGES.refused(scene, "summer(5, 0) of none", x -> x.summer(5, 0), -1);
            EDGES.refused(scene, "summer(-1, 5) of none", x -> x.summer(-1, 5), -1);
        }
        // One of none is the latest.
        EDGES.asked(x -> {
            x.wheel(1, 1);
            x.image(0);
            x.dairy(3);
            x.summer(5, 30);
            x.back(0);
            x.summer(5, 30);
        }, "drawn(103), the latest of none", x -> x.drawn(103), 0);
    }

    private static void drawnEnds() {
        EDGES.says("How many of the latest SUMMER ended at an END. NONE (no such END).");
        Edges.Scene held = x -> {
            atTheFoot(1, 4).set(x);
            x.summer(3, 30);
        };
        int all = 0;
        for (int end : new int[] {100, 102, 104, 107}) all += Edges.made(held).drawn(end);
        EDGES.due("drawn() of all", all, 30);
        for (int end : new int[] {0, 79, 101, 106}) EDGES.asksAlone(held, "drawn(" + end + ")", x -> x.drawn(end), 0);
        for (int end : new int[] {-1, 80, 90, 99, 108, Integer.MIN_VALUE, Integer.MAX_VALUE}) {
            EDGES.none(held, "drawn(" + end + ")", x -> x.drawn(end));
            EDGES.none(Edges.BARE, "drawn(" + end + ") ahead of any", x -> x.drawn(end));
        }
        for (int end : new int[] {0, 79, 100, 107}) {
            EDGES.none(Edges.PAIR, "drawn(" + end + ") ahead of any", x -> x.drawn(end));
            EDGES.none(x -> {
                Edges.PAIR.set(x);
                x.summer(0, 31);
            }, "drawn(" + end + ") behind one REFUSED", x -> x.drawn(end));
        }
        for (int cell : new int[] {0, 79}) {
            EDGES.asked(x -> {
                x.wheel(1, 0);
                x.dairy(cell);
                Edges.under(x, "slows 99;shuts");
                x.height(79, 0);
                x.summer(1, 30);
            }, "drawn(" + cell + ") of those that stay", x -> x.drawn(cell), 30);
        }
    }

    private static void imagesKept() {
        EDGES.says("IMAGE k is kept: 0; -1. BACK to IMAGE k: 0. -1; -2 it was not kept.");
        for (int k = 0; k < 2; k++) {
            int own = k;
            EDGES.done(Edges.FULL, "image(" + k + ")", x -> x.image(own), 0);
            EDGES.refused(Edges.PAIR, "back(" + k + "), not kept", x -> x.back(own), -2);
            EDGES.refused(x -> {
                Edges.PAIR.set(x);
                x.image(1 - own);
            }, "back(" + k + "), the other is kept", x -> x.back(own), -2);
            EDGES.done(x -> {
                Edges.PAIR.set(x);
                x.image(own);
            }, "back(" + k + ")", x -> x.back(own), 0);
        }
        for (int n : new int[] {-1, 2, Integer.MIN_VALUE, Integer.MAX_VALUE}) {
            EDGES.refused(Edges.FULL, "image(" + n + ")", x -> x.image(n), -1);
            EDGES.refused(Edges.FULL, "back(" + n + ")", x -> x.back(n), -1);
            EDGES.refused(Edges.BARE, "back(" + n + "), none kept", x -> x.back(n), -1);
        }
    }

    private static void imagesKeepNot() {
        EDGES.says("IMAGES 0, 1 keep all but the TAPE, FAULT, CRUMBS, where ORDERS stopped, what can be undone (nothing, behind back()), the latest SUMMER");
        Edges.Scene kept = x -> {
            Edges.PAIR.set(x);
            x.wheel(3, 3);
            x.image(0);
            x.send(25);
            x.send(160 + 25);
            Edges.put(x, Edges.bytes(1, 100, 100));
            x.row();
            x.summer(5, 30);
        };
        Edges.Scene stopped = x -> {
            kept.set(x);
            Edges.orders(x, "wait;mend 80 by 1");
        };
        Edges.Scene faulty = x -> {
            kept.set(x);
            Edges.law(x, "shuts it");
            Edges.put(x, "shuts");
        };
        EDGES.asked(back(faulty), "count(9)", x -> x.count(9), 5);
        EDGES.asked(back(faulty), "law() of the TAPE", CheesePost::law, 0);
        EDGES.asked(back(faulty), "fault()", CheesePost::fault, 6);
        EDGES.asked(back(kept), "crumbs()", CheesePost::crumbs, 2);
        EDGES.asked(back(stopped), "stopped()", CheesePost::stopped, 1);
        EDGES.asked(back(kept), "drawn(35)", x -> x.drawn(35), Edges.made(kept).drawn(35));
        EDGES.asked(kept, "count(8) ahead of back()", x -> x.count(8), 2);
        EDGES.asked(back(kept), "count(8)", x -> x.count(8), 0);
        EDGES.refused(back(kept), "undo()", CheesePost::undo, -3);
        // As they are behind image(), too: what can be undone stays.
        EDGES.asked(x -> {
            kept.set(x);
            x.image(1);
        }, "count(8) behind image()", x -> x.count(8), 2);
        EDGES.done(x -> {
            kept.set(x);
            x.image(1);
        }, "undo() behind image()", CheesePost::undo, 185);
        // Nothing, though the IMAGE was made when two could be undone.
        EDGES.refused(x -> {
            kept.set(x);
            x.image(1);
            x.back(1);
        }, "undo() behind back() to one with two sends", CheesePost::undo, -3);
        EDGES.asked(x -> {
            kept.set(x);
            x.image(1);
            x.back(1);
        }, "of(1, 2) behind back() to one with two sends", x -> x.of(1, 2), 1);
        EDGES.done(x -> {
            back(kept).set(x);
            x.send(29);
        }, "undo() of a send behind back()", CheesePost::undo, 29);
    }

    private static Edges.Scene back(Edges.Scene scene) {
        return x -> {
            scene.set(x);
            EDGES.due("back(0)", x.back(0), 0);
        };
    }

    private static void backToThem() {
        EDGES.says("BACK to one all that it keeps is as it was then (IMAGES stay).");
        // What is not kept is left out: the TAPE, FAULT, CRUMBS, where ORDERS stopped, sends, the SUMMER, IMAGES.
        Edges.Scene then = x -> {
            for (int i = 0; i < 5; i++) x.wheel(i + 1, i);
            x.dairy(3);
            x.dairy(4);
            for (int i = 0; i < 4; i++) {
                x.house(35 + i, i);
                x.letter(i, 10 + i);
                x.reply(i, i + 1);
                x.trace(9 * i, i % 2);
            }
            x.fence(19, 4);
            x.height(60, 55);
            for (int i = 0; i < 4; i++) x.terms(i, 5 + i);
            Edges.law(x, "slows 1;costs 5");
            Edges.law(x, "slows 2;eats if hunger=1");
            x.force(1);
            x.send(25);
            x.send(160 + 65);
        };
        String but = "";
        for (int i = 0; i < 10; i++) but += " undo() " + i + " count(3) behind undo() " + i + " count(7) behind undo() " + i
                + " came(0, 0) behind undo() " + i + " came(4, 0) behind undo() " + i;
        but += " count(8)";
        for (int k = 0; k < 2; k++) {
            for (int what = 0; what < 20; what++) but += " count(" + what + ") at IMAGE " + k;
            for (int cell = 0; cell < 80; cell += 5) but += " at(" + cell + ", 0) at IMAGE " + k;
            but += " back(" + k + ")";
        }
        Edges.Scene otherwise = x -> {
            x.height(60, 1);
            x.height(0, 1);
            x.fence(19, 9);
            x.fence(79, 1);
            x.house(0, 9);
            x.dairy(79);
            x.wheel(9, 9);
            x.letter(3, 99);
            x.trace(1, 1);
            for (int i = 0; i < 4; i++) x.terms(i, 1);
            Edges.law(x, "slows 3");
            x.force(2);
            x.reply(0, 9);
            x.reply(3, 0);
            x.send(320 + 25);
        };
        Edges.Scene emptied = x -> {
            x.burn();
            x.forget();
            x.force(-1);
            x.letter(0, 77);
            x.trace(2, 1);
            x.send(320 + 25);
            x.send(480 + 65);
        };
        for (Edges.Scene meanwhile : new Edges.Scene[] {Edges.BARE, otherwise, emptied}) {
            for (int k = 0; k < 2; k++) {
                int own = k;
                EDGES.alike("back(" + k + ")", x -> {
                    then.set(x);
                    x.image(own);
                    meanwhile.set(x);
                    x.back(own);
                }, then, but);
                EDGES.alike("back(" + k + ") again", x -> {
                    then.set(x);
                    x.image(own);
                    x.back(own);
                    meanwhile.set(x);
                    x.back(own);
                }, then, but);
                EDGES.alike("back(" + k + "), from the other", x -> {
                    then.set(x);
                    x.image(own);
                    meanwhile.set(x);
                    x.image(1 - own);
                    x.back(1 - own);
                    x.back(own);
                }, then, but);
            }
        }
        // To a new object; and an IMAGE kept anew is the new one alone.
        EDGES.alike("back() to a bare slope", x -> {
            x.image(0);
            then.set(x);
            x.back(0);
        }, Edges.BARE, but);
        EDGES.alike("back() to one kept anew", x -> {
            x.image(0);
            then.set(x);
            x.image(0);
            otherwise.set(x);
            x.back(0);
        }, then, but);
        // What was made since can be made again, with the numbers of then.
        EDGES.done(x -> {
            x.image(0);
            Edges.FULL.set(x);
            x.image(1);
            x.back(0);
            x.back(1);
            x.back(0);
        }, "house() at an IMAGE without HOUSES", x -> x.house(1, 1), 0);
        for (int i = 0; i < 2; i++) {
            int wheel = i;
            EDGES.done(x -> {
                x.dairy(3);
                for (int n = 0; n < wheel; n++) x.wheel(1, 1);
                x.image(0);
                x.wheel(2, 2);
                x.send(160 * wheel + 25);
                x.back(0);
            }, "wheel() behind back()", x -> x.wheel(3, 3), i);
            EDGES.asked(x -> {
                x.dairy(3);
                for (int n = 0; n < wheel; n++) x.wheel(1, 1);
                x.image(0);
                x.wheel(2, 2);
                x.send(160 * wheel + 25);
                x.back(0);
                x.wheel(3, 3);
            }, "whether it is GONE", x -> x.of(wheel, 2), 0);
        }
    }

    private static void counts() {
        EDGES.says("0 HOUSES, 1 DAIRIES, 2 WHEELS, 3 those GONE, 4 LETTERS, 5 LAWS, 6 TRACES, 7 CELLS with a FENCE, 8 how many sends can be undone, 9 bytes of the TAPE");
        int[] full = {8, 4, 8, 6, 8, 6, 8, -1, 6, 5};
        for (int i = 0; i < full.length; i++) {
            int what = i;
            if (i != 7) EDGES.asksAlone(Edges.FULL, "count(" + i + ")", x -> x.count(what), full[i]);
        }
        EDGES.asked(x -> {
            for (int i = 0; i < 20; i++) x.feed(0, 0, 0, 0, 0);
        }, "count(9) of a full TAPE", x -> x.count(9), 400);
        EDGES.says("15 the LAW in FORCE, 16 .. 19 TERMS 0 .. 3");
        int[] last = {4, 5, 4, 12, 3};
        for (int i = 0; i < last.length; i++) {
            int what = 15 + i;
            EDGES.asksAlone(Edges.FULL, "count(" + what + ")", x -> x.count(what), last[i]);
        }
        EDGES.says("NONE for others.");
        for (int n : new int[] {-1, 20, 21, Integer.MIN_VALUE, Integer.MAX_VALUE}) EDGES.none(Edges.FULL, "count(" + n + ")", x -> x.count(n));
    }

    private static void refusalsCounted() {
        EDGES.says("10 .. 14 how many calls were REFUSED by -1, -2, -3, -5, -6 (IMAGES do not keep that)");
        Edges.Scene all = x -> {
            Edges.PAIR.set(x);
            x.image(0);
            x.height(80, 0);
            x.force(0);
            x.force(0);
            for (int i = 0; i < 3; i++) x.undo();
            for (int i = 0; i < 7; i++) x.dairy(0);
            for (int i = 0; i < 5; i++) x.row();
        };
        int[] due = {1, 2, 3, 4, 5};
        for (int i = 0; i < 5; i++) {
            int what = 10 + i;
            EDGES.asksAlone(Edges.PAIR, "count(" + what + ") of none", x -> x.count(what), 0);
            EDGES.asksAlone(all, "count(" + what + ")", x -> x.count(what), due[i]);
            EDGES.asked(x -> {
                all.set(x);
                x.back(0);
            }, "count(" + what + ") behind back()", x -> x.count(what), due[i]);
            EDGES.asked(x -> {
                all.set(x);
                x.image(1);
                x.height(80, 0);
                x.back(1);
            }, "count(" + what + ") behind image() and back()", x -> x.count(what), due[i] + (i == 0 ? 1 : 0));
        }
        // Each that can be REFUSED, by each of its numbers, counts once.
        Edges.Call[] by1 = {x -> x.height(80, 0), x -> x.fence(80, 0), x -> x.house(80, 0), x -> x.dairy(80), x -> x.wheel(0, 0),
            x -> x.letter(0, 0), x -> x.terms(4, 0), x -> x.send(0), x -> x.trace(80, 0), x -> x.reply(0, 10), x -> x.summer(0, 0),
            x -> x.image(2), x -> x.back(2)};
        for (int i = 0; i < by1.length; i++) EDGES.refused(Edges.PAIR, "call " + i + " of a number that can't be", by1[i], -1);
        Edges.Call[] by2 = {x -> x.letter(1, 1), x -> x.force(0), x -> x.send(185), x -> x.reply(1, 1), x -> x.back(0)};
        for (int i = 0; i < by2.length; i++) EDGES.refused(Edges.PAIR, "call " + i + " of no such", by2[i], -2);
        EDGES.refused(Edges.PAIR, "house(35, 0)", x -> x.house(35, 0), -3);
        EDGES.refused(Edges.FULL, "send(25)", x -> x.send(25), -3);
        EDGES.refused(Edges.PAIR, "undo()", CheesePost::undo, -3);
        EDGES.refusedText(Edges.PAIR, "mend 80 by 1", CheesePost::orders, -3);
        Edges.Call[] by5 = {x -> x.house(0, 0), x -> x.dairy(0), x -> x.wheel(1, 1), x -> x.letter(0, 1), x -> x.trace(0, 0)};
        for (int i = 0; i < by5.length; i++) EDGES.refused(Edges.FULL, "call " + i + " without room", by5[i], -5);
        EDGES.refusedText(Edges.FULL, "shuts", CheesePost::law, -5);
        EDGES.refusedText(Edges.PAIR, "shut", CheesePost::law, -6);
        EDGES.refusedText(Edges.PAIR, "shut", CheesePost::orders, -6);
        EDGES.refusedText(Edges.PAIR, "shut", CheesePost::row, -6);
        // What answers NONE is not REFUSED.
        EDGES.none(all, "feed() is not", x -> {
            for (int i = 0; i < 20; i++) x.feed(0, 0, 0, 0, 0);
            int answer = x.feed(0, 0, 0, 0, 0);
            x.end(0);
            return answer;
        });
        EDGES.none(all, "end(-1) is not", x -> x.end(-1));
        EDGES.none(all, "fits(-2) is not", x -> x.fits(-2));
        EDGES.none(all, "drawn(-1) is not", x -> x.drawn(-1));
    }

    private static void status() {
        EDGES.says("What the latest call of height, fence, house, dairy, wheel, letter, terms, row, law, orders, force, send, undo, trace, reply, summer, image, back was REFUSED by; 0 if it was not, or ahead of any.");
        EDGES.asksAlone(Edges.BARE, "status() ahead of any", CheesePost::status, 0);
        // Each of those that is not REFUSED makes it 0.
        Edges.Scene ready = x -> {
            Edges.PAIR.set(x);
            x.wheel(1, 1);
            x.image(0);
            x.send(160 + 25);
            Edges.put(x, Edges.bytes(1, 1));
            x.height(80, 0);
        };
        EDGES.asked(ready, "status() behind height(80, 0)", CheesePost::status, -1);
        Edges.Call[] calls = {x -> x.height(1, 1), x -> x.fence(1, 1), x -> x.house(1, 1), x -> x.dairy(1), x -> x.wheel(1, 1),
            x -> x.letter(0, 1), x -> x.terms(0, 1), CheesePost::row, x -> x.force(-1), x -> x.send(25), CheesePost::undo,
            x -> x.trace(1, 1), x -> x.reply(0, 1), x -> x.summer(1, 1), x -> x.image(0), x -> x.back(0)};
        for (int i = 0; i < calls.length; i++) {
            Edges.Call call = calls[i];
            EDGES.asked(x -> {
                ready.set(x);
                call.on(x);
            }, "status() behind call " + i, CheesePost::status, 0);
        }
        for (String text : new String[] {"shuts", "wait"}) {
            EDGES.asked(x -> {
                ready.set(x);
                x.end(0);
                if (text.equals("wait")) Edges.orders(x, text);
                else Edges.law(x, text);
            }, "status() behind " + text, CheesePost::status, 0);
        }
        // The others leave it.
        Edges.Call[] others = {CheesePost::burn, x -> x.at(1, 1), x -> x.of(0, 0), x -> x.feed(0, 0, 0, 0, 0), x -> x.end(0),
            CheesePost::crumbs, CheesePost::fault, CheesePost::stopped, x -> x.asks(1, 0, 1, 0), x -> x.roll(3, 2, 5, 0, 0),
            x -> x.path(3, 2, 5, 0, 0), x -> x.broken(3, 2, 5, 0, 0), x -> x.slips(25, 0, 0), x -> x.ends(25, 0, 0), x -> x.came(0, 0),
            x -> x.aim(0, 0), x -> x.sure(0, 0, 0), x -> x.post(0), CheesePost::forget, x -> x.fits(0), x -> x.wall(25, 0, 0),
            x -> x.share(1, 1, 1, 1), x -> x.read(1, 1, 2, 2, 3, 3), x -> x.odd(1, 1, 1, 1, 1), x -> x.trips(0, 0), x -> x.drawn(0),
            x -> x.count(0), CheesePost::status};
        int[] codes = {-1, -2, -3, -5, -6};
        Edges.Call[] refusals = {x -> x.height(80, 0), x -> x.force(9), x -> x.house(35, 0), x -> {
            for (int i = 0; i < 4; i++) x.dairy(1);
            return 0;
        }, x -> {
            x.end(0);
            return x.row();
        }};
        for (int i = 0; i < others.length; i++) {
            Edges.Call other = others[i];
            for (int r = 0; r < codes.length; r++) {
                Edges.Call refusal = refusals[r];
                EDGES.asked(x -> {
                    Edges.PAIR.set(x);
                    refusal.on(x);
                    other.on(x);
                }, "status() behind call " + i + " that leaves it", CheesePost::status, codes[r]);
            }
        }
    }
}
