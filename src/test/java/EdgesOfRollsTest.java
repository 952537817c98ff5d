/** The sentences of Terms III on WHEELS that roll which name an edge, with the promises 22 to 36. */
public final class EdgesOfRollsTest {
    private static final Edges EDGES = new Edges();

    public static void main(String[] args) {
        startingNumbers();
        theMostPull();
        theNewSpeed();
        fencesInTheWay();
        whereItEnds();
        sixtySteps();
        askedOfRolls();
        slipping();
        rowsOfSlips();
        rowsOfSixtySteps();
        rowsOverFences();
        endsOfRows();
        sending();
        undoing();
        counted();
        aims();
        aimsAsRolled();
        surest();
        posts();
        traces();
        fitting();
        walls();
        EDGES.end();
    }

    /** On the flat, with no KEEP. */
    private static Edges.Scene flat(String law) {
        return x -> {
            Edges.flat(x, 50);
            x.wheel(1, 0);
            x.terms(1, 0);
            Edges.under(x, law);
        };
    }

    private static void rolled(Edges.Scene scene, String how, int[] from, int... want) {
        for (int i = 0; i < want.length; i++) {
            int what = i;
            EDGES.asked(scene, how + ", what " + what, x -> x.roll(from[0], from[1], from[2], from[3], what), want[what]);
        }
    }

    private static int[] at(int... from) {
        return from;
    }

    private static void startingNumbers() {
        EDGES.says("A WHEEL rolls from a CELL with a DIRECTION and a SPEED 0 .. 99");
        for (int n : new int[] {-1, 100, Integer.MIN_VALUE, Integer.MAX_VALUE}) {
            EDGES.none(Edges.PAIR, "roll() with SPEED " + n, x -> x.roll(3, 2, n, 0, 0));
            EDGES.none(Edges.PAIR, "path() with SPEED " + n, x -> x.path(3, 2, n, 0, 0));
            EDGES.none(Edges.PAIR, "broken() with SPEED " + n, x -> x.broken(3, 2, n, 0, 0));
        }
        for (int n : new int[] {-1, 1, 8, Integer.MIN_VALUE, Integer.MAX_VALUE}) {
            EDGES.none(Edges.PAIR, "roll() of WHEEL " + n, x -> x.roll(3, 2, 5, n, 0));
            EDGES.none(Edges.PAIR, "path() of WHEEL " + n, x -> x.path(3, 2, 5, n, 0));
            EDGES.none(Edges.PAIR, "broken() of WHEEL " + n, x -> x.broken(3, 2, 5, n, 0));
        }
        EDGES.asksAlone(Edges.PAIR, "roll() with SPEED 0", x -> x.roll(3, 2, 0, 0, 3), 9 * 4);
        EDGES.asksAlone(Edges.PAIR, "roll() with SPEED 99", x -> x.roll(3, 2, 99, 0, 3), 99);
        EDGES.asked(x -> {
            Edges.PAIR.set(x);
            x.send(25);
        }, "roll() of one GONE", x -> x.roll(3, 2, 5, 0, 0), 35);
    }

    private static void theMostPull() {
        EDGES.says("it takes that of the most PULL: HEIGHT here less HEIGHT there, KEEP more for the DIRECTION it has; of alike ones the lowest");
        Edges.Scene even = flat("slows 1");
        // All four are alike: up; without up: right; then down; then left.
        rolled(even, "all alike", at(36, 3, 2, 0), 28);
        rolled(flat("shuts if x=4 and y=3"), "up is SHUT", at(36, 3, 2, 0), 37);
        rolled(flat("shuts if x=4 and y=3 or x=5"), "up and right are SHUT", at(36, 3, 2, 0), 44);
        rolled(flat("shuts if x=4 and not y=4 or x=5"), "left alone", at(36, 0, 2, 0), 35);
        for (int keep : new int[] {0, 1, 20}) {
            Edges.Scene kept = x -> {
                even.set(x);
                x.terms(1, keep);
            };
            rolled(kept, "KEEP " + keep, at(36, 3, 2, 0), keep == 0 ? 28 : 35);
            // A HEIGHT less by KEEP is alike, the lower DIRECTION then; less by one more it is the most.
            EDGES.asked(x -> {
                kept.set(x);
                x.height(28, 50 - keep);
            }, "KEEP " + keep + ", up less by as much", x -> x.path(36, 3, 25, 0, 1), 28);
            if (keep > 0) {
                Edges.Scene left = x -> {
                    kept.set(x);
                    x.height(28, 51 - keep);
                };
                EDGES.asked(left, "KEEP " + keep + ", up less by one less", x -> x.path(36, 3, 25, 0, 1), 35);
            }
            EDGES.asked(x -> {
                kept.set(x);
                x.height(37, 50 - keep);
            }, "KEEP " + keep + " up, right less by as much", x -> x.path(36, 0, 25, 0, 1), 28);
            EDGES.asked(x -> {
                kept.set(x);
                x.height(37, 49 - keep);
            }, "KEEP " + keep + " up, right less by one more", x -> x.path(36, 0, 25, 0, 1), 37);
        }
        EDGES.says("Of the DIRECTIONS in which there is a CELL that is not SHUT to it (with the SPEED it has), or from y 9 down the VALLEY");
        rolled(flat("shuts if speed=5"), "all SHUT with SPEED 5", at(36, 3, 5, 0), 36, 0, 0, 5, 0, 0);
        rolled(flat("shuts if speed<5 or speed>5"), "none SHUT with SPEED 5", at(36, 3, 5, 0), 28, 0, 1, 4, 0, 0);
        rolled(flat("shuts"), "the VALLEY is not SHUT", at(76, 0, 5, 0), 104, 3, 1, 5 + 50 - 1, 0, 0);
        rolled(flat("shuts if ripe=0"), "SHUT to it", at(36, 3, 5, 0), 36, 0, 0, 5, 0, 0);
        rolled(flat("shuts if ripe=1"), "SHUT to another", at(36, 3, 2, 0), 28, 0, 1, 1, 0, 0);
        EDGES.says("None: it stays (why 0).");
        rolled(flat("shuts"), "all SHUT", at(36, 3, 99, 0), 36, 0, 0, 99, 0, 0);
        rolled(flat("shuts if not x=4"), "a corridor", at(4, 0, 3, 0), 4, 0, 2, 1, 0, 0);
    }

    private static void theNewSpeed() {
        EDGES.says("SPEED and HEIGHT here less HEIGHT there, less what it is SLOWED here (with the old SPEED), 99 at most; below 1: it stays (why 0)");
        // To the right alone, by as much as the HEIGHTS differ.
        Edges.Scene right = flat("shuts if not (y=4 and x>3 and x<6)");
        rolled(right, "SPEED 2 becomes 1", at(36, 1, 2, 0), 37, 0, 1, 1, 0, 0);
        rolled(right, "SPEED 1 becomes 0", at(36, 1, 1, 0), 36, 0, 0, 1, 0, 0);
        rolled(right, "SPEED 0 would be below", at(36, 1, 0, 0), 36, 0, 0, 0, 0, 0);
        for (int up = 0; up < 4; up++) {
            int higher = up;
            Edges.Scene hill = x -> {
                right.set(x);
                x.height(37, 50 + higher);
            };
            EDGES.asked(hill, "uphill by " + up + ", just fast enough", x -> x.path(36, 1, 2 + higher, 0, 1), 37);
            EDGES.asked(hill, "uphill by " + up + ", too slow", x -> x.path(36, 1, 1 + higher, 0, 1), -1);
        }
        Edges.Scene ended = x -> {
            right.set(x);
            x.house(37, 0);
        };
        int[][] falls = {{50, 50, 50, 99}, {49, 50, 50, 98}, {51, 50, 50, 99}, {99, 50, 50, 98}, {99, 51, 50, 99}, {99, 99, 0, 99}};
        for (int[] f : falls) {
            rolled(x -> {
                ended.set(x);
                x.height(36, f[1]);
                x.height(37, f[1] - f[2]);
            }, "SPEED " + f[0] + " down by " + f[2], at(36, 1, f[0], 0), 37, 2, 1, Math.min(99, f[0] + f[2] - 1));
        }
        Edges.Scene slowed = flat("shuts if not (y=4 and x>3 and x<6);slows 7 if x=4 and speed=9;slows 99 if x=5;slows 99 if speed<9");
        rolled(slowed, "as it is SLOWED here, with the old SPEED", at(36, 1, 9, 0), 37, 0, 1, 2, 0, 0);
        // SPEED 0 at 37 and SPEED 99 at 36 beside it are each asked for themselves.
        rolled(x -> {
            flat("slows 0;slows 50 if x=4;shuts if not y=4 or x=3 and speed=99").set(x);
            x.height(37, 99);
            x.height(36, 0);
            x.height(35, 1);
        }, "SPEED 0, then 99", at(37, 3, 0, 0), 36, 0, 1, 99);
        rolled(x -> {
            flat("slows 0;slows 50 if x=4;shuts if not y=4").set(x);
            x.height(37, 99);
            x.height(36, 0);
            x.height(35, 1);
            x.house(35, 0);
        }, "SPEED 0, then 99", at(37, 3, 0, 0), 35, 2, 2, 99 - 50 - 1);
        // 99 at most is asked behind what it is SLOWED.
        rolled(x -> {
            x.wheel(1, 0);
            x.height(0, 99);
            x.height(8, 50);
            x.house(8, 0);
            Edges.under(x, "slows 40");
        }, "99 and 49 less 40", at(0, 2, 90, 0), 8, 2, 1, 99);
        rolled(x -> {
            x.wheel(1, 0);
            x.height(0, 99);
            x.height(8, 50);
            x.house(8, 0);
            Edges.under(x, "slows 41");
        }, "90 and 49 less 41", at(0, 2, 90, 0), 8, 2, 1, 98);
    }

    private static void fencesInTheWay() {
        EDGES.says("if the new SPEED times SIZE is less than 10 times as strong, it stays (why 1), else it breaks it, SPEED is as much less as that is strong (1 at least)");
        // On the flat to the right: the new SPEED is one less than the old.
        for (int size = 1; size <= 9; size++) {
            for (int strong = 1; strong <= 9; strong++) {
                int s = size;
                int f = strong;
                Edges.Scene fenced = x -> {
                    Edges.flat(x, 50);
                    x.wheel(s, 0);
                    x.fence(37, f);
                    x.house(37, 0);
                };
                int enough = (10 * strong + size - 1) / size;
                if (enough < 99) {
                    rolled(fenced, "SIZE " + size + ", FENCE " + strong + ", just enough", at(36, 1, enough + 1, 0), 37, 2, 1,
                            Math.max(1, enough - strong), 1, 0);
                }
                rolled(fenced, "SIZE " + size + ", FENCE " + strong + ", just not", at(36, 1, enough, 0), 36, 1, 0, enough, 0, 0);
            }
        }
        EDGES.says("A FENCE there that it did not break yet");
        // To and fro over one FENCE: it is broken but once.
        Edges.Scene twice = x -> {
            flat("shuts if not (y=4 and x>2 and x<6);slows 1").set(x);
            x.fence(36, 1);
        };
        rolled(twice, "to and fro", at(35, 1, 20, 0), 37, 0, 18, 1, 1, 0);
        EDGES.asked(twice, "broken(.., 0)", x -> x.broken(35, 1, 20, 0, 0), 36);
        EDGES.none(twice, "broken(.., 1)", x -> x.broken(35, 1, 20, 0, 1));
        EDGES.asked(twice, "at(36, 1), on paper", x -> x.at(36, 1), 1);
        // The FENCE in the CELL where it starts is not in its way, until it comes back.
        rolled(x -> {
            Edges.flat(x, 50);
            x.wheel(9, 0);
            x.fence(36, 9);
        }, "a FENCE where it starts", at(36, 1, 2, 0), 37, 0, 1, 1, 0, 0);
        // The VALLEY has none.
        rolled(x -> {
            x.wheel(1, 0);
            for (int cell = 0; cell < 72; cell++) x.fence(cell, 9);
        }, "down to the VALLEY", at(72, 2, 2, 0), 100, 3, 1, 1, 0, 0);
        // Why 1 leaves SPEED, CELL and STEPS as they were; each FENCE is broken at its CELL, 0 and 79 too.
        rolled(x -> {
            x.wheel(9, 0);
            x.height(0, 50);
            x.height(1, 99);
            x.fence(0, 9);
            x.house(0, 0);
        }, "FENCE on CELL 0", at(1, 3, 9, 0), 0, 2, 1, 9 + 49 - 1 - 9, 1);
        rolled(x -> {
            x.wheel(9, 0);
            x.height(78, 99);
            x.fence(79, 9);
        }, "FENCE on CELL 79", at(78, 1, 9, 0), 107, 3, 2, 99 - 9 - 1, 1);
    }

    private static void whereItEnds() {
        EDGES.says("Then it is there; at a HOUSE it ends (why 2), in the VALLEY (why 3)");
        rolled(Edges.PAIR, "to a HOUSE", at(3, 2, 5, 0), 35, 2, 4, 5 + 36, 0, 0);
        rolled(Edges.PAIR, "from a HOUSE it goes on", at(35, 2, 5, 0), 103, 3, 6, 5 + 50 - 6, 0, 0);
        rolled(x -> {
            Edges.PAIR.set(x);
            x.house(75, 0);
        }, "a HOUSE at y 9", at(67, 2, 5, 0), 75, 2, 1);
        rolled(Edges.PAIR, "from a HOUSE it goes on, with SPEED 0 too", at(35, 0, 0, 0), 103, 3, 6);
        rolled(x -> {
            flat("shuts").set(x);
            x.house(36, 0);
        }, "stays at a HOUSE where it started, all SHUT", at(36, 0, 9, 0), 36, 0, 0, 9, 0, 0);
        for (int cell : new int[] {8, 15, 72, 79}) {
            EDGES.asked(x -> {
                x.wheel(1, 0);
                x.house(cell, 0);
            }, "a HOUSE at " + cell, x -> x.roll(cell - 8, 2, 5, 0, 1), 2);
        }
        EDGES.says("whether it is EATEN (5; 0 if not at a HOUSE)");
        Edges.Scene eating = x -> {
            Edges.PAIR.set(x);
            x.wheel(2, 9);
            Edges.under(x, "eats if ripe=0");
        };
        EDGES.asked(eating, "roll(.., 5) at a HOUSE", x -> x.roll(3, 2, 5, 0, 5), 1);
        EDGES.asked(eating, "roll(.., 5) of another WHEEL", x -> x.roll(3, 2, 5, 1, 5), 0);
        EDGES.asked(eating, "roll(.., 5) in the VALLEY", x -> x.roll(4, 2, 5, 0, 5), 0);
        EDGES.asked(x -> {
            flat("shuts;eats").set(x);
        }, "roll(.., 5) where it stays", x -> x.roll(36, 2, 5, 0, 5), 0);
    }

    /** To and fro on two CELLS, one slower by each STEP from SPEED 99; at a SPEED of 40 (behind 59 STEPS) a third is open. */
    private static Edges.Scene openBehind(int steps) {
        return flat("slows 1;shuts if not (y=4 and (x=3 or x=4 or x=5 and speed=" + (99 - steps) + "))");
    }

    private static void sixtySteps() {
        EDGES.says("behind 60 STEPS (why 4)");
        rolled(openBehind(99), "never open", at(35, 1, 99, 0), 35, 4, 60, 39, 0, 0);
        EDGES.asked(openBehind(99), "path(.., 59)", x -> x.path(35, 1, 99, 0, 59), 36);
        EDGES.asked(openBehind(99), "path(.., 60)", x -> x.path(35, 1, 99, 0, 60), 35);
        EDGES.none(openBehind(99), "path(.., 61)", x -> x.path(35, 1, 99, 0, 61));
        // The 60th STEP to a HOUSE, into the VALLEY, over a FENCE; and one that is not made.
        rolled(x -> {
            openBehind(59).set(x);
            x.house(37, 0);
        }, "a HOUSE behind 60", at(35, 1, 99, 0), 37, 2, 60, 39, 0, 0);
        rolled(openBehind(59), "a CELL behind 60", at(35, 1, 99, 0), 37, 4, 60, 39, 0, 0);
        rolled(x -> {
            openBehind(57).set(x);
            x.house(37, 0);
        }, "a HOUSE behind 58", at(35, 1, 99, 0), 37, 2, 58, 41, 0, 0);
        rolled(x -> {
            openBehind(61).set(x);
            x.house(37, 0);
        }, "a HOUSE that would be behind 62", at(35, 1, 99, 0), 35, 4, 60, 39, 0, 0);
        rolled(x -> {
            openBehind(59).set(x);
            x.fence(37, 3);
        }, "a FENCE behind 60", at(35, 1, 99, 0), 37, 4, 60, 36, 1, 0);
        rolled(x -> {
            openBehind(59).set(x);
            x.fence(37, 4);
        }, "a FENCE that holds behind 59", at(35, 1, 99, 0), 36, 1, 59, 40, 0, 0);
        rolled(flat("slows 1;shuts if speed=40 or not (y=4 and (x=3 or x=4))"), "all SHUT behind 59", at(35, 1, 99, 0), 36, 0, 59, 40, 0, 0);
        // Below HEIGHT 0 is none, so up and down are alike at y 9, and up is the lower one until it is SHUT.
        rolled(x -> {
            x.wheel(1, 0);
            x.terms(1, 0);
            x.height(64, 0);
            Edges.under(x, "slows 1;shuts if not (x=0 and (y=9 or y=8 and speed>40))");
        }, "the VALLEY behind 60", at(64, 0, 99, 0), 100, 3, 60, 39, 0, 0);
    }

    private static void askedOfRolls() {
        EDGES.says("its END (what 0), why (1), STEPS (2), SPEED then (3), how many FENCES it breaks (4), whether it is EATEN (5). NONE.");
        for (int n : new int[] {-1, 6, Integer.MIN_VALUE, Integer.MAX_VALUE}) {
            EDGES.none(Edges.PAIR, "roll(.., " + n + ")", x -> x.roll(3, 2, 5, 0, n));
        }
        int[] due = {35, 2, 4, 41, 0, 0};
        for (int i = 0; i < 6; i++) {
            int what = i;
            EDGES.asksAlone(Edges.PAIR, "roll(.., " + i + ")", x -> x.roll(3, 2, 5, 0, what), due[i]);
        }
        EDGES.says("Where it is behind i STEPS (to those it makes; the VALLEY as its number). NONE.");
        int[] path = {3, 11, 19, 27, 35};
        for (int i = 0; i < path.length; i++) {
            int step = i;
            EDGES.asksAlone(Edges.PAIR, "path(.., " + i + ")", x -> x.path(3, 2, 5, 0, step), path[i]);
        }
        for (int n : new int[] {-1, 5, 60, 61, Integer.MIN_VALUE, Integer.MAX_VALUE}) {
            EDGES.none(Edges.PAIR, "path(.., " + n + ")", x -> x.path(3, 2, 5, 0, n));
        }
        EDGES.asked(Edges.PAIR, "path() into the VALLEY", x -> x.path(79, 2, 5, 0, 1), 107);
        EDGES.asked(flat("shuts"), "path(.., 0) of one that stays", x -> x.path(36, 2, 5, 0, 0), 36);
        EDGES.none(flat("shuts"), "path(.., 1) of one that stays", x -> x.path(36, 2, 5, 0, 1));
        EDGES.says("The CELL of the i-th FENCE it breaks. NONE.");
        Edges.Scene two = x -> {
            Edges.PAIR.set(x);
            x.fence(11, 1);
            x.fence(27, 1);
        };
        EDGES.asksAlone(two, "broken(.., 0)", x -> x.broken(3, 2, 5, 0, 0), 11);
        EDGES.asksAlone(two, "broken(.., 1)", x -> x.broken(3, 2, 5, 0, 1), 27);
        for (int n : new int[] {-1, 2, 60, Integer.MIN_VALUE, Integer.MAX_VALUE}) {
            EDGES.none(two, "broken(.., " + n + ")", x -> x.broken(3, 2, 5, 0, n));
        }
        EDGES.none(Edges.PAIR, "broken() of none", x -> x.broken(3, 2, 5, 0, 0));
        // As many as can be: a FENCE in each CELL of a way of ten and more.
        Edges.Scene all = x -> {
            x.wheel(9, 0);
            for (int cell = 0; cell < 80; cell++) x.fence(cell, 1);
        };
        EDGES.asked(all, "FENCES broken down to the VALLEY", x -> x.roll(0, 2, 9, 0, 4), 9);
        EDGES.asked(all, "broken(.., 8)", x -> x.broken(0, 2, 9, 0, 8), 72);
    }

    /** ROWS of a THROW of WHEEL 0 from DAIRY 0 by their ENDS. */
    private static void rows(Edges.Scene scene, String how, int cast, int k, int... endsAndMany) {
        int all = 0;
        for (int i = 0; i < endsAndMany.length; i += 2) {
            int end = endsAndMany[i];
            EDGES.asked(scene, how + ", ends(" + cast + ", " + k + ", " + end + ")", x -> x.ends(cast, k, end), endsAndMany[i + 1]);
            all += endsAndMany[i + 1];
        }
        EDGES.asked(scene, how + ", slips(" + cast + ", " + k + ", 0)", x -> x.slips(cast, k, 0), all);
        EDGES.asked(scene, how + ", slips(" + cast + ", " + k + ", 1)", x -> x.slips(cast, k, 1), endsAndMany.length / 2);
    }

    private static Edges.Scene from(int cell, Edges.Scene scene) {
        return x -> {
            scene.set(x);
            x.dairy(cell);
        };
    }

    private static void slipping() {
        EDGES.says("A SLIP: in a STEP it takes the DIRECTION of the next PULL (in the same order), if there is one.");
        // One STEP from 36 to a HOUSE; where all are alike it goes up and slips to the right.
        rows(around(""), "all alike", 2, 1, 28, 1, 37, 1);
        rows(around(";shuts if y=3"), "up is SHUT", 2, 1, 37, 1, 44, 1);
        rows(around(";shuts if y=3 or x=5"), "up and right are SHUT", 2, 1, 44, 1, 35, 1);
        rows(around(";shuts if not y=4 or x=5"), "left alone", 2, 1, 35, 1);
        rows(around(";shuts"), "none", 2, 1, 36, 1);
        // KEEP is in the PULL that is next, too.
        Edges.Scene kept = x -> {
            around("").set(x);
            x.terms(1, 5);
            x.height(44, 40);
        };
        rows(kept, "down is lower, left is kept", 32, 1, 44, 1, 35, 1);
        rows(kept, "down is lower and kept", 22, 1, 44, 1, 28, 1);
        rows(x -> {
            around("").set(x);
            x.height(28, 49);
            x.height(35, 48);
        }, "left is lowest, up the next", 2, 1, 35, 1, 28, 1);
        rows(x -> {
            around("").set(x);
            x.height(44, 49);
            x.height(35, 49);
        }, "down and left are alike", 2, 1, 44, 1, 35, 1);
        // Lower and lower, higher and higher, as the DIRECTIONS go: downhill and up.
        int[][] hills = {{40, 45, 47, 48}, {48, 47, 45, 40}, {51, 52, 53, 54}, {54, 53, 52, 51}, {40, 47, 45, 48}, {48, 40, 47, 45},
            {53, 51, 54, 52}, {45, 45, 45, 40}, {45, 40, 45, 45}, {55, 50, 50, 45}};
        int[][] taken = {{28, 37}, {35, 44}, {28, 37}, {35, 44}, {28, 44}, {37, 35}, {37, 35}, {35, 28}, {37, 28}, {35, 37}};
        int[] cells = {28, 37, 44, 35};
        for (int i = 0; i < hills.length; i++) {
            int[] hill = hills[i];
            rows(x -> {
                around("").set(x);
                for (int d = 0; d < 4; d++) x.height(cells[d], hill[d]);
            }, "hill " + i, 9, 1, taken[i][0], 1, taken[i][1], 1);
        }
        // Where all is SHUT to it in the second STEP, none can be slipped to, though it could in the first.
        rows(from(36, flat("slows 1;shuts if speed=7")), "all SHUT behind a STEP", 8, 1, 28, 1, 37, 1);
        rows(from(36, flat("slows 1;shuts if speed=7")), "all SHUT behind a STEP", 8, 2, 28, 1, 37, 1);
        // Another WHEEL slips as it is, not as the first of them.
        rows(x -> {
            around(";slows 99 if size=1").set(x);
            x.wheel(9, 1);
            x.height(36, 60);
            x.fence(37, 9);
        }, "a WHEEL that breaks what the first does not", 169, 1, 28, 1, 37, 1);
        // By a SLIP uphill it stays: a ROW as well.
        rows(x -> {
            around(";shuts if not y=4").set(x);
            x.height(37, 60);
        }, "right is too high", 2, 1, 35, 1, 36, 1);
        // By a SLIP in the STEP that a FENCE stops, too.
        rows(x -> {
            around(";shuts if not y=4").set(x);
            x.fence(37, 9);
        }, "a FENCE to the right", 2, 1, 36, 1, 35, 1);
    }

    /** A DAIRY at 36 with HOUSES around it, on the flat. */
    private static Edges.Scene around(String law) {
        return x -> {
            flat("slows 1" + law).set(x);
            x.dairy(36);
            for (int cell : new int[] {28, 37, 44, 35}) x.house(cell, 0);
        };
    }

    private static void rowsOfSlips() {
        EDGES.says("ROWS of SLIPS: sets of STEPS in which it slips, k 0 .. 2 at most, each of which it can.");
        // Down three CELLS in a corridor that is two wide: at y 8 and 9, and into the VALLEY.
        Edges.Scene wide = from(56, x -> {
            x.wheel(1, 0);
            x.terms(1, 0);
            for (int y = 6; y < 10; y++) for (int c = 0; c < 2; c++) x.height(8 * y + c, 100 - 10 * y);
            Edges.under(x, "slows 0;shuts if x>1");
        });
        // From (0, 7) down in three STEPS: in each it can slip to the side, where it goes on down.
        rows(wide, "k 0", 29, 0, 100, 1);
        rows(wide, "k 1", 29, 1, 100, 1, 101, 3);
        // To the side and back in one of those behind: 3, 2 and 1 of them.
        rows(wide, "k 2", 29, 2, 100, 1 + 6, 101, 3);
        for (int n : new int[] {-1, 3, Integer.MIN_VALUE, Integer.MAX_VALUE}) {
            EDGES.none(Edges.PAIR, "slips(25, " + n + ", 0)", x -> x.slips(25, n, 0));
            EDGES.none(Edges.PAIR, "ends(25, " + n + ", 35)", x -> x.ends(25, n, 35));
        }
        for (int n = 0; n < 3; n++) {
            int k = n;
            EDGES.asked(Edges.PAIR, "whether slips(25, " + k + ", 0) is known", x -> x.slips(25, k, 0) > 0 ? 1 : 0, 1);
            EDGES.asked(Edges.PAIR, "whether ends(25, " + k + ", 35) is known", x -> x.ends(25, k, 35) > 0 ? 1 : 0, 1);
        }
        // To and fro with one DIRECTION each: no SLIP can be.
        rows(from(35, openBehind(99)), "to and fro on two", 19, 2, 35, 1);
        EDGES.says("how many (what 0), how many unlike ENDS (1), the END of most (2; the lowest), of how many (3). NONE (no such THROW).");
        for (int n : new int[] {-1, 4, Integer.MIN_VALUE, Integer.MAX_VALUE}) {
            EDGES.none(Edges.PAIR, "slips(25, 1, " + n + ")", x -> x.slips(25, 1, n));
        }
        EDGES.asksAlone(wide, "slips(29, 1, 2)", x -> x.slips(29, 1, 2), 101);
        EDGES.asksAlone(wide, "slips(29, 1, 3)", x -> x.slips(29, 1, 3), 3);
        EDGES.asksAlone(wide, "slips(29, 2, 2)", x -> x.slips(29, 2, 2), 100);
        EDGES.asksAlone(wide, "slips(29, 2, 3)", x -> x.slips(29, 2, 3), 7);
        // Two ENDS of one ROW each: the lowest.
        Edges.Scene alike = around("");
        EDGES.asked(alike, "the lowest of alike ENDS", x -> x.slips(2, 1, 2), 28);
        EDGES.asked(alike, "of how many", x -> x.slips(2, 1, 3), 1);
        Edges.Scene valley = from(72, x -> {
            x.wheel(1, 0);
            Edges.under(x, "shuts if x>0");
        });
        EDGES.asked(valley, "a CELL is lower than the VALLEY", x -> x.slips(25, 1, 2), 72);
        EDGES.asked(valley, "of how many", x -> x.slips(25, 1, 3), 1);
        EDGES.none(x -> x.wheel(1, 1), "slips() without DAIRIES", x -> x.slips(25, 0, 0));
        EDGES.none(x -> x.dairy(1), "slips() without WHEELS", x -> x.slips(25, 0, 0));
        EDGES.none(x -> {
            Edges.PAIR.set(x);
            x.send(25);
        }, "slips() of one GONE", x -> x.slips(25, 0, 0));
    }

    /** To and fro among three CELLS with no end but behind 60 STEPS; in each from the midst one it can slip. */
    private static void rowsOfSixtySteps() {
        EDGES.says("behind 60 STEPS (why 4), with SLIPS too");
        Edges.Scene three = from(36, flat("slows 0;shuts if not (y=4 and x>2 and x<6)"));
        rows(three, "k 0", 19, 0, 36, 1);
        rows(three, "k 1", 19, 1, 36, 1 + 30);
        rows(three, "k 2", 19, 2, 36, 1 + 30 + 30 * 29 / 2);
        // From the left of them each second STEP can be slipped in, the last too.
        Edges.Scene left = from(35, flat("slows 0;shuts if not (y=4 and x>2 and x<6)"));
        rows(left, "k 1, from the left", 19, 1, 37, 1 + 29, 35, 1);
        rows(left, "k 2, from the left", 19, 2, 37, 1 + 29 + 29 * 28 / 2, 35, 1 + 29);
    }

    /** Down to the midst of three CELLS, where a FENCE of 9 at the right can be broken once, and not again. */
    private static void rowsOverFences() {
        EDGES.says("A FENCE there that it did not break yet, with SLIPS too");
        for (int y : new int[] {1, 4, 7, 8}) {
            Edges.Scene fenced = x -> {
                Edges.flat(x, 50);
                x.wheel(9, 0);
                x.terms(1, 0);
                x.dairy(8 * y - 4);
                x.height(8 * y - 4, 59);
                x.fence(8 * y + 5, 9);
                Edges.under(x, "slows 0;shuts if not (y=" + y + " and x>2 and x<6)");
            };
            int left = 8 * y + 3;
            int right = 8 * y + 5;
            rows(fenced, "a FENCE on " + right, 29, 0, right, 1);
            rows(fenced, "a FENCE on " + right, 29, 1, right, 1 + 29, left, 1);
            rows(fenced, "a FENCE on " + right, 29, 2, right, 1 + 29 + 29 * 28 / 2, left, 1 + 29);
            // The first SLIP that can be is behind the FENCE: what was broken ahead of it stays so.
            rows(x -> {
                fenced.set(x);
                Edges.under(x, "slows 0;shuts if not (y=" + y + " and x>2 and x<6);shuts if x=3 and speed=18");
            }, "a SLIP behind a FENCE on " + right, 29, 1, right, 1 + 28, left, 1);
            // What one THROW broke by a SLIP is there again for the next, which is too slow for it.
            Edges.Scene slower = x -> {
                Edges.flat(x, 50);
                x.wheel(9, 0);
                x.terms(1, 0);
                x.dairy(left + 1);
                x.height(left + 1, 51);
                x.fence(left, 9);
                x.house(left, 0);
                x.house(right, 0);
                Edges.under(x, "slows 0;shuts if not y=" + y);
            };
            rows(slower, "fast enough", 9, 1, right, 1, left, 1);
            rows(slower, "too slow", 8, 1, right, 1, left + 1, 1);
            rows(x -> {
                slower.set(x);
                EDGES.due("slips(9, 1, 0)", x.slips(9, 1, 0), 2);
            }, "too slow, behind one that was fast enough", 8, 1, right, 1, left + 1, 1);
        }
    }

    private static void endsOfRows() {
        EDGES.says("An END is a CELL, or the VALLEY's number. NONE (no such THROW, END).");
        for (int end : new int[] {-1, 80, 99, 108, 200, Integer.MIN_VALUE, Integer.MAX_VALUE}) {
            EDGES.none(Edges.PAIR, "ends(25, 1, " + end + ")", x -> x.ends(25, 1, end));
        }
        for (int end : new int[] {0, 79, 100, 102, 107}) {
            EDGES.asksAlone(Edges.PAIR, "ends(25, 0, " + end + ")", x -> x.ends(25, 0, end), 0);
        }
        EDGES.asksAlone(Edges.PAIR, "ends(25, 0, 35)", x -> x.ends(25, 0, 35), 1);
        for (int end : new int[] {100, 107}) {
            EDGES.asked(x -> {
                x.wheel(1, 1);
                x.dairy(end - 28);
            }, "ends(25, 0, " + end + ")", x -> x.ends(25, 0, end), 1);
        }
        for (int cell : new int[] {0, 1, 78, 79}) {
            Edges.Scene stays = from(cell, flat("slows 99"));
            EDGES.asked(stays, "ends(2, 0, " + cell + ")", x -> x.ends(2, 0, cell), 1);
            EDGES.asked(stays, "slips(2, 0, 1) at " + cell, x -> x.slips(2, 0, 1), 1);
            EDGES.asked(stays, "slips(2, 0, 2) at " + cell, x -> x.slips(2, 0, 2), cell);
            EDGES.asked(stays, "slips(2, 0, 3) at " + cell, x -> x.slips(2, 0, 3), 1);
        }
        for (int end : new int[] {100, 101, 106, 107}) {
            EDGES.asked(from(end - 28, x -> x.wheel(1, 1)), "slips(25, 0, 2) to " + end, x -> x.slips(25, 0, 2), end);
            EDGES.asked(from(end - 28, x -> x.wheel(1, 1)), "slips(25, 0, 1) to " + end, x -> x.slips(25, 0, 1), 1);
        }
        // Of two alike the lowest, CELL 0 too.
        EDGES.asked(from(8, x -> {
            flat("slows 1;shuts if x>1 or y>1").set(x);
            x.house(0, 0);
            x.house(9, 0);
        }), "the lowest of CELLS 0 and 9", x -> x.slips(2, 1, 2), 0);
        EDGES.none(x -> {
            Edges.PAIR.set(x);
            x.send(25);
        }, "ends() of one GONE", x -> x.ends(25, 0, 35));
    }

    private static void sending() {
        EDGES.says("To SEND: it rolls; the HOUSE counts what came and was not EATEN, what was (asked once, ahead of what follows); FENCES it breaks are 0 then, the WHEEL is GONE.");
        Edges.Scene fenced = x -> {
            x.dairy(3);
            x.house(27, 4);
            x.house(29, 4);
            x.wheel(9, 1);
            x.wheel(9, 1);
            x.fence(11, 2);
            x.fence(27, 5);
            x.fence(12, 5);
            Edges.under(x, "eats if fence=5");
        };
        Edges.Scene sent = x -> {
            fenced.set(x);
            EDGES.due("send(25)", x.send(25), 27);
        };
        EDGES.asked(sent, "came(0, 1), asked ahead of what follows", x -> x.came(0, 1), 1);
        EDGES.asked(sent, "came(0, 0)", x -> x.came(0, 0), 0);
        EDGES.asked(sent, "came(1, 1)", x -> x.came(1, 1), 0);
        EDGES.asked(sent, "at(11, 1)", x -> x.at(11, 1), 0);
        EDGES.asked(sent, "at(27, 1)", x -> x.at(27, 1), 0);
        EDGES.asked(sent, "at(12, 1), not in its way", x -> x.at(12, 1), 5);
        EDGES.asked(sent, "of(0, 2)", x -> x.of(0, 2), 1);
        EDGES.asked(sent, "of(1, 2)", x -> x.of(1, 2), 0);
        Edges.Scene again = x -> {
            sent.set(x);
            x.send(185);
        };
        EDGES.asked(again, "came(0, 0) of the next", x -> x.came(0, 0), 1);
        EDGES.asked(again, "came(0, 1) of the next", x -> x.came(0, 1), 1);
        // Not so one at an edge of the MEADOW, nor one told again where an earlier one was broken.
        Edges.Scene corners = x -> {
            Edges.PAIR.set(x);
            x.wheel(9, 0);
            x.dairy(5);
            for (int cell : new int[] {0, 7, 72, 79}) x.fence(cell, 3);
            x.fence(11, 1);
            x.send(25);
            x.fence(11, 1);
            x.send(160 + 65);
        };
        for (int cell : new int[] {0, 7, 72, 79}) EDGES.asked(corners, "at(" + cell + ", 1)", x -> x.at(cell, 1), 3);
        EDGES.asked(corners, "at(11, 1), told again", x -> x.at(11, 1), 1);
        EDGES.asked(corners, "count(7)", x -> x.count(7), 5);
        // A FENCE that stops it stays.
        EDGES.asked(x -> {
            Edges.PAIR.set(x);
            x.fence(11, 9);
            x.send(25);
        }, "at(11, 1) of one that holds", x -> x.at(11, 1), 9);
        // What stays at a HOUSE, or ends elsewhere, did not come to it.
        EDGES.asked(x -> {
            flat("shuts;eats").set(x);
            x.dairy(36);
            x.house(36, 0);
            EDGES.due("send(25)", x.send(25), 36);
        }, "came(0, 0) and (0, 1) of one that stays", x -> x.came(0, 0) + x.came(0, 1), 0);
        EDGES.says("-1 (no THROW can be told so); -2 (its WHEEL, DAIRY); -3 GONE");
        EDGES.refused(Edges.PAIR, "send(0)", x -> x.send(0), -1);
        EDGES.refused(Edges.PAIR, "send(185)", x -> x.send(185), -2);
        EDGES.refused(Edges.PAIR, "send(65)", x -> x.send(65), -2);
        EDGES.refused(again, "send(25)", x -> x.send(25), -3);
        EDGES.done(Edges.PAIR, "send(25)", x -> x.send(25), 35);
    }

    private static void undoing() {
        EDGES.says("8 sends (by ORDERS, too) can be undone, the latest first");
        Edges.Scene eight = x -> {
            x.dairy(3);
            for (int i = 0; i < 8; i++) x.wheel(1, i);
            for (int i = 0; i < 4; i++) x.send(160 * i + 21 + i);
            Edges.orders(x, "send 4 from 0 toward 2 with 5;send 5 from 0 toward 0 with 6;send 6 from 0 toward 1 with 7");
            x.send(1120 + 38);
        };
        int[] casts = {21, 182, 343, 504, 665, 806, 977, 1158};
        EDGES.asked(eight, "count(8)", x -> x.count(8), 8);
        CheesePost x = Edges.made(eight);
        for (int i = 7; i >= 0; i--) {
            EDGES.due("undo() of send " + i, x.undo(), casts[i]);
            EDGES.due("count(8)", x.count(8), i);
            EDGES.due("of(" + i + ", 2)", x.of(i, 2), 0);
            EDGES.due("count(3)", x.count(3), i);
        }
        EDGES.due("undo() of none", x.undo(), -3);
        EDGES.refused(Edges.PAIR, "undo() of none", CheesePost::undo, -3);
        EDGES.refused(z -> {
            eight.set(z);
            for (int i = 0; i < 8; i++) z.undo();
        }, "undo(), the ninth", CheesePost::undo, -3);
        // What is sent, undone and sent again is one send each.
        EDGES.asked(z -> {
            eight.set(z);
            for (int i = 0; i < 5; i++) z.undo();
            for (int i = 3; i < 8; i++) z.send(160 * i + 9);
        }, "count(8)", z -> z.count(8), 8);
        EDGES.says("all FENCES and WHEELS GONE and what all HOUSES count are as ahead of it then");
        Edges.Scene sent = z -> {
            Edges.PAIR.set(z);
            z.wheel(2, 0);
            z.house(36, 0);
            z.fence(11, 1);
            z.fence(50, 3);
            z.send(25);
        };
        Edges.Scene ahead = z -> {
            Edges.PAIR.set(z);
            z.wheel(2, 0);
            z.house(36, 0);
            z.fence(11, 1);
            z.fence(50, 3);
        };
        EDGES.alike("send() and undo()", z -> {
            sent.set(z);
            z.undo();
        }, ahead, "");
        // FENCES told behind it are gone back to as well; HEIGHTS, HOUSES, WHEELS, DAIRIES, TERMS stay.
        EDGES.alike("send(), told anew, undo()", z -> {
            sent.set(z);
            z.fence(11, 7);
            z.fence(50, 0);
            z.fence(0, 9);
            z.fence(79, 9);
            z.height(7, 7);
            z.house(20, 3);
            z.wheel(3, 3);
            z.dairy(9);
            z.terms(0, 9);
            z.letter(0, 9);
            z.trace(1, 1);
            z.reply(0, 2);
            EDGES.due("undo()", z.undo(), 25);
        }, z -> {
            ahead.set(z);
            z.height(7, 7);
            z.house(20, 3);
            z.wheel(3, 3);
            z.dairy(9);
            z.terms(0, 9);
            z.letter(0, 9);
            z.trace(1, 1);
            z.reply(0, 2);
        }, "");
        EDGES.says("The latest send is undone: its THROW. -3 there is none.");
        EDGES.done(sent, "undo()", CheesePost::undo, 25);
        EDGES.refused(z -> {
            sent.set(z);
            z.undo();
        }, "undo() again", CheesePost::undo, -3);
    }

    private static void counted() {
        EDGES.says("How many came to a HOUSE and were not EATEN (what 0), were (1). NONE.");
        Edges.Scene all = x -> {
            x.dairy(3);
            x.house(35, 0);
            for (int i = 0; i < 8; i++) x.wheel(1, i / 5);
            Edges.under(x, "eats if ripe=1");
            for (int i = 0; i < 8; i++) x.send(160 * i + 25);
        };
        EDGES.asksAlone(all, "came(0, 0)", x -> x.came(0, 0), 5);
        EDGES.asksAlone(all, "came(0, 1)", x -> x.came(0, 1), 3);
        for (int n : new int[] {-1, 2, Integer.MIN_VALUE, Integer.MAX_VALUE}) EDGES.none(all, "came(0, " + n + ")", x -> x.came(0, n));
        for (int n : new int[] {-1, 1, 8, Integer.MIN_VALUE, Integer.MAX_VALUE}) EDGES.none(all, "came(" + n + ", 0)", x -> x.came(n, 0));
        EDGES.asked(Edges.FULL, "came(7, 0)", x -> x.came(7, 0), 1);
        EDGES.none(Edges.FULL, "came(8, 0)", x -> x.came(8, 0));
    }

    private static void aims() {
        EDGES.says("AIMS at a HOUSE: THROWS that end at it (why 2) and are not EATEN; the cheapest, of alike ones the first. NONE (none, for 1 .. 3).");
        int[] none = {0, -1, -1, -1};
        for (int i = 0; i < 4; i++) {
            int what = i;
            EDGES.asksAlone(x -> x.house(35, 0), "aim(0, " + i + ") without THROWS", x -> x.aim(0, what), none[i]);
            EDGES.asksAlone(x -> {
                Edges.PAIR.set(x);
                x.send(25);
            }, "aim(0, " + i + ") of one GONE", x -> x.aim(0, what), none[i]);
            EDGES.asksAlone(x -> {
                Edges.PAIR.set(x);
                Edges.under(x, "eats");
            }, "aim(0, " + i + "), all EATEN", x -> x.aim(0, what), none[i]);
            // A WHEEL that stays at the HOUSE where it is thrown does not come to it (why 2).
            EDGES.asksAlone(x -> {
                x.wheel(1, 0);
                x.dairy(35);
                x.house(35, 0);
                Edges.under(x, "shuts");
            }, "aim(0, " + i + ") of one that stays", x -> x.aim(0, what), none[i]);
        }
        int[] due = {36, 1, 1, 4};
        for (int i = 0; i < 4; i++) {
            int what = i;
            EDGES.asksAlone(Edges.PAIR, "aim(0, " + i + ")", x -> x.aim(0, what), due[i]);
        }
        for (int n : new int[] {-1, 4, Integer.MIN_VALUE, Integer.MAX_VALUE}) EDGES.none(Edges.PAIR, "aim(0, " + n + ")", x -> x.aim(0, n));
        for (int n : new int[] {-1, 1, 8, Integer.MIN_VALUE, Integer.MAX_VALUE}) EDGES.none(Edges.PAIR, "aim(" + n + ", 0)", x -> x.aim(n, 0));
        // The first and the last of all THROWS.
        Edges.Scene many = x -> {
            for (int i = 0; i < 8; i++) x.wheel(1 + i, i);
            for (int i = 0; i < 4; i++) x.dairy(3 + 8 * i);
            x.house(35, 0);
        };
        EDGES.asked(many, "aim(0, 0) of all", x -> x.aim(0, 0), 1152);
        EDGES.asked(many, "aim(0, 1) of alike ones", x -> x.aim(0, 1), 1);
        EDGES.asked(x -> {
            many.set(x);
            Edges.under(x, "costs 900-ripe*100-y*10-speed");
        }, "aim(0, 1), the last DAIRY, WHEEL, SPEED", x -> x.aim(0, 1), 1120 + 120 + 9);
        EDGES.asked(x -> {
            many.set(x);
            Edges.under(x, "costs 999;costs 998 if size=8 and y=3 and speed=9");
        }, "aim(0, 1), one less", x -> x.aim(0, 1), 1120 + 120 + 9);
        EDGES.asked(x -> {
            many.set(x);
            Edges.under(x, "costs 5;costs 0-7 if size=5;costs 0 if size=4");
        }, "aim(0, 1), 0 at least", x -> x.aim(0, 1), 480 + 1);
    }

    /** What AIMS count is what each THROW does when it is rolled alone. */
    private static void aimsAsRolled() {
        EDGES.says("AIMS at a HOUSE: THROWS that end at it (why 2) and are not EATEN");
        String[] laws = {"slows 1;slows 99 if ripe=0 and x=4", "slows 2;shuts if ripe=0 and x=4", "slows speed%7+x;shuts if speed*x%5=y%3 and ripe>0",
            "eats if speed%3=ripe;slows size", "shuts if speed=9+ripe;slows x+y", "shuts if speed%4=0 and not x=3;eats if speed>30+ripe"};
        for (String law : laws) {
            Edges.Scene scene = x -> {
                for (int i = 0; i < 3; i++) x.wheel(2 + i, i);
                x.dairy(4);
                x.dairy(3);
                x.dairy(11);
                x.house(35, 0);
                Edges.under(x, law);
            };
            int all = 0;
            int first = -1;
            for (int wheel = 0; wheel < 3; wheel++) {
                CheesePost x = Edges.made(scene);
                for (int cast = 160 * wheel; cast < 160 * wheel + 120; cast++) {
                    int cell = new int[] {4, 3, 11}[cast % 160 / 40];
                    if (cast % 10 == 0 || x.roll(cell, cast / 10 % 4, cast % 10, wheel, 0) != 35) continue;
                    if (x.roll(cell, cast / 10 % 4, cast % 10, wheel, 5) == 1) continue;
                    all++;
                    if (first < 0) first = cast;
                }
            }
            EDGES.asked(scene, "aim(0, 0) under " + law, x -> x.aim(0, 0), all);
            int due = first;
            EDGES.asked(scene, "aim(0, 1) under " + law, x -> x.aim(0, 1), due);
            EDGES.asked(scene, "sure(0, 0, 1) under " + law, x -> x.sure(0, 0, 1), 1);
        }
        // What one HOUSE's AIMS were does not tell of another's.
        Edges.Scene two = x -> {
            Edges.PAIR.set(x);
            x.house(0, 0);
            x.aim(0, 1);
        };
        int[] none = {0, -1, -1, -1};
        for (int i = 0; i < 4; i++) {
            int what = i;
            EDGES.asksAlone(two, "aim(1, " + i + ") behind aim(0, 1)", x -> x.aim(1, what), none[i]);
        }
        EDGES.none(x -> {
            two.set(x);
            x.sure(0, 1, 0);
        }, "sure(1, 1, 0) behind sure(0, 1, 0)", x -> x.sure(1, 1, 0));
    }

    private static void surest() {
        EDGES.says("SURE: the one with the greatest share of its ROWS of at most k SLIPS (0, 1) whose END is the CELL of the HOUSE (EATEN or not); of alike ones the first. NONE (no THROW at all, or none ends there).");
        for (int i = 0; i < 3; i++) {
            int what = i;
            EDGES.none(x -> x.house(35, 0), "sure(0, 0, " + i + ") without THROWS", x -> x.sure(0, 0, what));
            EDGES.none(x -> {
                Edges.PAIR.set(x);
                x.send(25);
            }, "sure(0, 0, " + i + ") of one GONE", x -> x.sure(0, 0, what));
            EDGES.none(x -> {
                Edges.PAIR.set(x);
                x.house(0, 0);
            }, "sure(1, 1, " + i + "), none ends there", x -> x.sure(1, 1, what));
        }
        int[] due0 = {1, 1, 1};
        int[] due1 = {1, 1, 5};
        for (int i = 0; i < 3; i++) {
            int what = i;
            EDGES.asksAlone(Edges.PAIR, "sure(0, 0, " + i + ")", x -> x.sure(0, 0, what), due0[i]);
            EDGES.asksAlone(Edges.PAIR, "sure(0, 1, " + i + ")", x -> x.sure(0, 1, what), due1[i]);
            EDGES.asked(x -> {
                Edges.PAIR.set(x);
                Edges.under(x, "eats");
            }, "sure(0, 1, " + i + "), EATEN or not", x -> x.sure(0, 1, what), due1[i]);
        }
        for (int n : new int[] {-1, 2, Integer.MIN_VALUE, Integer.MAX_VALUE}) EDGES.none(Edges.PAIR, "sure(0, " + n + ", 0)", x -> x.sure(0, n, 0));
        for (int n : new int[] {-1, 3, Integer.MIN_VALUE, Integer.MAX_VALUE}) EDGES.none(Edges.PAIR, "sure(0, 0, " + n + ")", x -> x.sure(0, 0, n));
        for (int n : new int[] {-1, 1, 8, Integer.MIN_VALUE, Integer.MAX_VALUE}) EDGES.none(Edges.PAIR, "sure(" + n + ", 0, 0)", x -> x.sure(n, 0, 0));
        // 1 of 2 is more than 1 of 3, and than 2 of 5: shares, not how many.
        Edges.Scene two = x -> {
            x.wheel(9, 0);
            x.dairy(3);
            x.house(19, 0);
            x.dairy(11);
        };
        int[] share = {41, 1, 2};
        for (int i = 0; i < 3; i++) {
            int what = i;
            EDGES.asked(two, "sure(0, 1, " + i + ") of two DAIRIES", x -> x.sure(0, 1, what), share[i]);
        }
        EDGES.asked(two, "sure(0, 0, 0), both alike: the first", x -> x.sure(0, 0, 0), 1);
        // An END at the CELL of the HOUSE where it is thrown and stays: all of one ROW.
        EDGES.asked(x -> {
            two.set(x);
            x.dairy(19);
            Edges.under(x, "shuts if y=3 or y=2 and not x=3;shuts if y=1");
        }, "sure(0, 1, 0), one that stays there", x -> x.sure(0, 1, 0), 81);
    }

    private static void posts() {
        EDGES.says("WORTH (what 0), COSTS (1), how many LETTERS go (2), the WHEEL of LETTER i (3 + i; NONE: none). NONE (no such LETTER).");
        for (int n = 0; n < 3; n++) {
            int what = n;
            EDGES.asksAlone(Edges.BARE, "post(" + n + ") of none", x -> x.post(what), 0);
            EDGES.asksAlone(x -> {
                x.house(35, 0);
                x.letter(0, 99);
            }, "post(" + n + ") without WHEELS", x -> x.post(what), 0);
        }
        EDGES.none(Edges.BARE, "post(3) of none", x -> x.post(3));
        Edges.Scene two = x -> {
            Edges.PAIR.set(x);
            x.letter(0, 5);
            x.letter(0, 6);
        };
        int[] due = {6, 1, 1, -1, 0};
        for (int n = 0; n < due.length; n++) {
            int what = n;
            EDGES.asksAlone(two, "post(" + n + ")", x -> x.post(what), due[n]);
        }
        for (int n : new int[] {-1, 5, 10, 11, Integer.MIN_VALUE, Integer.MAX_VALUE}) EDGES.none(two, "post(" + n + ")", x -> x.post(n));
        Edges.Scene eight = x -> {
            Edges.PAIR.set(x);
            for (int i = 0; i < 7; i++) x.wheel(1, 0);
            for (int i = 0; i < 8; i++) x.letter(0, 99);
        };
        EDGES.asked(eight, "post(0) of eight", x -> x.post(0), 8 * 99);
        EDGES.asked(eight, "post(2) of eight", x -> x.post(2), 8);
        for (int i = 0; i < 8; i++) {
            int letter = i;
            EDGES.asked(eight, "post(" + (3 + i) + ") of eight", x -> x.post(3 + letter), i);
        }
        EDGES.none(eight, "post(11) of eight", x -> x.post(11));
        EDGES.says("the most WORTH together, then the least COSTS, then the first as a row of WHEELS by LETTERS (none last)");
        // One WORTH more is more than all that COSTS can be.
        Edges.Scene dear = x -> {
            eight.set(x);
            x.burn();
            x.dairy(4);
            x.house(36, 0);
            for (int i = 0; i < 8; i++) x.letter(0, 10);
            Edges.under(x, "costs 999");
        };
        EDGES.asked(dear, "post(0), eight of the most COSTS", x -> x.post(0), 80);
        EDGES.asked(dear, "post(1), eight of the most COSTS", x -> x.post(1), 8 * 999);
        Edges.Scene one = x -> {
            Edges.PAIR.set(x);
            x.dairy(4);
            x.house(36, 0);
            x.letter(0, 10);
            x.letter(1, 11);
            Edges.under(x, "costs 999 if x=4;costs 0 if x=3");
        };
        int[] worth = {11, 999, 1, -1, 0};
        for (int n = 0; n < worth.length; n++) {
            int what = n;
            EDGES.asked(one, "post(" + n + "), one WORTH more for 999", x -> x.post(what), worth[n]);
        }
        Edges.Scene same = x -> {
            one.set(x);
            x.burn();
            x.letter(1, 10);
            x.letter(0, 10);
        };
        int[] costs = {10, 0, 1, -1, 0};
        for (int n = 0; n < costs.length; n++) {
            int what = n;
            EDGES.asked(same, "post(" + n + "), the least COSTS", x -> x.post(what), costs[n]);
        }
        Edges.Scene alike = x -> {
            Edges.PAIR.set(x);
            x.wheel(2, 0);
            for (int i = 0; i < 3; i++) x.letter(0, 10);
        };
        int[] row = {20, 2, 2, 0, 1, -1};
        for (int n = 0; n < row.length; n++) {
            int what = n;
            EDGES.asked(alike, "post(" + n + "), none last", x -> x.post(what), row[n]);
        }
        EDGES.says("by the cheapest THROWS that come uneaten");
        Edges.Scene eaten = x -> {
            Edges.PAIR.set(x);
            x.letter(0, 10);
            Edges.under(x, "costs speed;costs 77 if speed=5;eats if speed<39 or speed>45");
        };
        // From SPEED 1 .. 9 it comes with 37 .. 45: those of 39 and more come uneaten, the cheapest with SPEED 3.
        EDGES.asked(eaten, "post(1)", x -> x.post(1), 3);
        EDGES.asked(x -> {
            Edges.PAIR.set(x);
            x.letter(0, 10);
            Edges.under(x, "eats");
        }, "post(2), all EATEN", x -> x.post(2), 0);
    }

    private static void traces() {
        EDGES.says("TRACES, 8 at most: a CELL's FENCE was broken (1) or was not (0).");
        Edges.Scene seven = x -> {
            Edges.PAIR.set(x);
            for (int i = 1; i <= 7; i++) EDGES.due("trace()", x.trace(79, 0), i);
        };
        EDGES.done(seven, "trace(), the eighth", x -> x.trace(79, 0), 8);
        EDGES.refused(x -> {
            seven.set(x);
            x.trace(0, 1);
        }, "trace(), the ninth", x -> x.trace(1, 0), -5);
        EDGES.asked(x -> {
            seven.set(x);
            x.trace(0, 1);
        }, "fits(NONE), the eighth counts", x -> x.fits(-1), 0);
        EDGES.done(x -> {
            Edges.FULL.set(x);
            x.forget();
        }, "trace() behind forget()", x -> x.trace(1, 0), 1);
        for (int n : new int[] {-1, 2, Integer.MIN_VALUE, Integer.MAX_VALUE}) {
            EDGES.refused(Edges.PAIR, "trace(1, " + n + ")", x -> x.trace(1, n), -1);
        }
        EDGES.says("TRACES are none then: how many there were.");
        EDGES.asked(Edges.FULL, "forget()", CheesePost::forget, 8);
        EDGES.asked(Edges.BARE, "forget() of none", CheesePost::forget, 0);
        EDGES.asked(x -> {
            seven.set(x);
            x.forget();
        }, "forget() again", CheesePost::forget, 0);
        EDGES.asked(x -> {
            seven.set(x);
            x.trace(0, 1);
            x.forget();
        }, "fits(NONE) behind forget()", x -> x.fits(-1), 36);
    }

    private static void fitting() {
        EDGES.says("THROWS that FIT break just so (as FENCES stand now): how many (i NONE), the i-th. NONE.");
        EDGES.asksAlone(Edges.BARE, "fits(NONE) without THROWS", x -> x.fits(-1), 0);
        EDGES.none(Edges.BARE, "fits(0) without THROWS", x -> x.fits(0));
        EDGES.asksAlone(Edges.PAIR, "fits(NONE) without TRACES", x -> x.fits(-1), 36);
        EDGES.asksAlone(Edges.PAIR, "fits(0)", x -> x.fits(0), 1);
        EDGES.asksAlone(Edges.PAIR, "fits(35)", x -> x.fits(35), 39);
        for (int n : new int[] {36, 1280, -2, Integer.MIN_VALUE, Integer.MAX_VALUE}) EDGES.none(Edges.PAIR, "fits(" + n + ")", x -> x.fits(n));
        for (int cell : new int[] {8, 63, 64, 72}) {
            Edges.Scene fenced = x -> {
                x.wheel(9, 0);
                x.dairy(cell - 8);
                x.fence(cell, 1);
            };
            for (int is = 0; is < 2; is++) {
                int told = is;
                EDGES.asked(x -> {
                    fenced.set(x);
                    x.trace(cell, told);
                }, "fits(NONE), " + cell + " was " + told, x -> x.fits(-1), told * 36);
                EDGES.asked(x -> {
                    fenced.set(x);
                    x.trace(cell, told);
                    x.fence(cell, 0);
                }, "fits(NONE), no FENCE now at " + cell + ", was " + told, x -> x.fits(-1), 36 - told * 36);
            }
            EDGES.asked(x -> {
                fenced.set(x);
                x.trace(cell, 1);
                x.trace(cell, 0);
            }, "fits(NONE), both at " + cell, x -> x.fits(-1), 0);
        }
        // A FENCE that it stops at is not broken.
        EDGES.asked(x -> {
            Edges.PAIR.set(x);
            x.fence(11, 9);
            x.trace(11, 0);
        }, "fits(NONE), stopped", x -> x.fits(-1), 36);
    }

    private static void walls() {
        EDGES.says("A WALL: a FENCE of 9 on one more CELL (in place of what is there; not the DAIRY's) by which a THROW ends at a HOUSE.");
        Edges.Scene turned = x -> {
            Edges.PAIR.set(x);
            x.house(12, 0);
        };
        // SIZE 2 with SPEED 14 .. 41 in its way breaks none of 9 but the last: 41 times 2 is less than 90.
        EDGES.asksAlone(turned, "wall(25, 0, NONE)", x -> x.wall(25, 0, -1), 79 - 4);
        EDGES.asksAlone(turned, "wall(25, 1, NONE)", x -> x.wall(25, 1, -1), 0);
        int at = 0;
        CheesePost z = Edges.made(turned);
        for (int cell = 0; cell < 80; cell++) {
            if (cell == 3 || cell == 11 || cell == 19 || cell == 27 || cell == 35) continue;
            EDGES.due("wall(25, 0, " + at + ")", z.wall(25, 0, at), cell);
            at++;
        }
        EDGES.due("wall(25, 0, " + at + ")", z.wall(25, 0, at), -1);
        for (int n : new int[] {75, 80, -2, Integer.MIN_VALUE, Integer.MAX_VALUE}) EDGES.none(turned, "wall(25, 0, " + n + ")", x -> x.wall(25, 0, n));
        for (int n : new int[] {-1, 2, 8, Integer.MIN_VALUE, Integer.MAX_VALUE}) EDGES.none(turned, "wall(25, " + n + ", NONE)", x -> x.wall(25, n, -1));
        EDGES.none(turned, "wall(185, 0, NONE)", x -> x.wall(185, 0, -1));
        EDGES.none(turned, "wall(65, 0, NONE)", x -> x.wall(65, 0, -1));
        EDGES.none(x -> {
            turned.set(x);
            x.send(25);
        }, "wall() of one GONE", x -> x.wall(25, 0, -1));
        // Just enough and just not to break it, at 37 and 38: 10 times 9 is 90, 9 times 9 is 81.
        Edges.Scene quick = x -> {
            Edges.flat(x, 50);
            x.wheel(9, 0);
            x.dairy(36);
            x.house(38, 0);
            Edges.under(x, "slows 0");
        };
        for (int speed : new int[] {9, 10}) {
            EDGES.asked(x -> {
                quick.set(x);
                x.height(36, 41 + speed);
            }, "walls with SPEED " + speed + " there", x -> x.wall(19, 0, -1), speed == 10 ? 79 : 77);
        }
        // In place of what is there: a FENCE that stops it is as strong as a WALL or weaker; 8 it would break, 9 it does not.
        Edges.Scene stopped = x -> {
            Edges.flat(x, 50);
            x.wheel(8, 0);
            x.dairy(36);
            x.house(38, 0);
            x.terms(1, 20);
        };
        EDGES.asked(x -> {
            stopped.set(x);
            x.height(36, 53);
        }, "without a FENCE, SPEED 11: a WALL at 37 stops it, at 38 too", x -> x.wall(19, 0, -1), 77);
        EDGES.asked(x -> {
            stopped.set(x);
            x.height(36, 53);
            x.fence(37, 8);
        }, "behind a FENCE of 8 it is 3 fast: a WALL at 37 in place of it stops it, at 38 too", x -> x.wall(19, 0, -1), 77);
        // A FENCE of 8 and a WALL on it are not 17: it breaks the 9, and comes on with SPEED 1. At 38 a WALL stops it.
        Edges.Scene replaced = x -> {
            quick.set(x);
            x.height(36, 51);
            x.fence(37, 8);
        };
        EDGES.asked(replaced, "walls with a FENCE of 8 on the way", x -> x.wall(19, 0, -1), 78);
        EDGES.asked(replaced, "the wall in place of it", x -> x.wall(19, 0, 36), 37);
        EDGES.asksAlone(replaced, "the next wall", x -> x.wall(19, 0, 37), 39);
        // It is on trial alone: behind it none stands, at the first CELL or the last.
        Edges.Scene ends = x -> {
            x.wheel(1, 0);
            x.dairy(1);
            x.dairy(7);
            x.height(0, 50);
            x.house(0, 0);
            x.house(79, 0);
            x.house(36, 0);
        };
        for (int house = 0; house < 3; house++) {
            int to = house;
            int[] walls = {78, 0, 0};
            EDGES.asksAlone(ends, "wall(35, " + house + ", NONE)", x -> x.wall(35, to, -1), walls[house]);
            EDGES.asked(ends, "aim(" + house + ", 0) behind all walls", x -> {
                x.wall(35, 0, -1);
                return x.aim(to, 0);
            }, Edges.made(ends).aim(house, 0));
        }
        EDGES.asked(ends, "slips(65, 0, 2) behind all walls", x -> {
            x.wall(65, 0, -1);
            return x.slips(65, 0, 2);
        }, 79);
        EDGES.asked(ends, "slips(35, 0, 2) behind all walls", x -> {
            x.wall(65, 0, -1);
            return x.slips(35, 0, 2);
        }, 0);
        // Another DAIRY's CELL can have one; of the DAIRY it is thrown from none is told.
        EDGES.asked(x -> {
            turned.set(x);
            x.dairy(4);
        }, "wall(25, 0, 3), another DAIRY's", x -> x.wall(25, 0, 3), 4);
        Edges.Scene second = x -> {
            Edges.PAIR.set(x);
            x.dairy(4);
            x.house(36, 0);
        };
        EDGES.asked(second, "wall(65, 1, 3), of the second DAIRY", x -> x.wall(65, 1, 3), 3);
        EDGES.asked(second, "wall(65, 1, 4), of the second DAIRY", x -> x.wall(65, 1, 4), 5);
        EDGES.asked(second, "wall(65, 1, NONE)", x -> x.wall(65, 1, -1), 79 - 4);
    }
}
