import java.util.ArrayList;
import java.util.Arrays;
import java.util.HashMap;
import java.util.HashSet;
import java.util.List;
import java.util.Map;
import java.util.Set;

/**
 * The document once more, written for plainness alone: trees for texts, whole copies for what can be gone back to,
 * every set of slips rolled from its start. The tests hold the program against it.
 */
final class CheesePostModel {
    static final class Broken extends RuntimeException {
        private static final long serialVersionUID = 1L;
    }

    static final class Fault extends RuntimeException {
        private static final long serialVersionUID = 1L;
        final int place;

        Fault(int place) {
            this.place = place;
        }
    }

    interface Sum {
        long of(Map<String, Long> words);
    }

    interface Test {
        boolean of(Map<String, Long> words);
    }

    static final class Item {
        String kind;
        List<Sum> sums = new ArrayList<>();
        int times = 1;
        Test test;
    }

    static final class World {
        int[] heights = new int[80];
        int[] fences = new int[80];
        List<int[]> houses = new ArrayList<>(); // cell, hunger, uneaten, eaten, weight
        List<Integer> dairies = new ArrayList<>();
        List<int[]> wheels = new ArrayList<>(); // size, ripe, gone
        List<int[]> letters = new ArrayList<>();
        List<int[]> traces = new ArrayList<>();
        List<List<Item>> laws = new ArrayList<>();
        int[] terms = {0, 3, 10, 2};
        int force = -1;

        World copy() {
            World w = new World();
            w.heights = heights.clone();
            w.fences = fences.clone();
            for (int[] h : houses) w.houses.add(h.clone());
            w.dairies.addAll(dairies);
            for (int[] h : wheels) w.wheels.add(h.clone());
            for (int[] h : letters) w.letters.add(h.clone());
            for (int[] h : traces) w.traces.add(h.clone());
            w.laws.addAll(laws);
            w.terms = terms.clone();
            w.force = force;
            return w;
        }

        int houseAt(int cell) {
            for (int i = 0; i < houses.size(); i++) if (houses.get(i)[0] == cell) return i;
            return -1;
        }
    }

    static final class Undo {
        int cast;
        World before;
    }

    static final class Roll {
        List<Integer> path = new ArrayList<>();
        List<Integer> broke = new ArrayList<>();
        int end;
        int why;
        int speed;
        int attempts;
        boolean slippedAll = true;
        boolean eaten;
    }

    interface Slip {
        boolean at(int attempt);
    }

    World w = new World();
    World[] images = new World[2];
    List<Undo> undos = new ArrayList<>();
    List<Integer> tape = new ArrayList<>();
    int crumbs = 0;
    int fault = -1;
    int stopped = -1;
    int status = 0;
    Map<Integer, Integer> refusals = new HashMap<>();
    Map<Integer, Integer> summerEnds = null;
    long drawing;
    int walled = -1; // the cell of a wall that is tried: in a wheel's way, but not told

    CheesePostModel() {
        for (int y = 0; y < 10; y++) for (int x = 0; x < 8; x++) w.heights[8 * y + x] = 90 - 10 * y;
    }

    private int no(int by) {
        status = by;
        refusals.merge(by, 1, Integer::sum);
        return by;
    }

    private int yes(int answer) {
        status = 0;
        return answer;
    }

    private static boolean in(int v, int a, int b) {
        return v >= a && v <= b;
    }

    // ---- what is told

    public int height(int cell, int height) {
        if (!in(cell, 0, 79) || !in(height, 0, 99)) return no(-1);
        int was = w.heights[cell];
        w.heights[cell] = height;
        return yes(was);
    }

    public int fence(int cell, int strong) {
        if (!in(cell, 0, 79) || !in(strong, 0, 9)) return no(-1);
        int was = w.fences[cell];
        w.fences[cell] = strong;
        return yes(was);
    }

    public int house(int cell, int hunger) {
        if (!in(cell, 0, 79) || !in(hunger, 0, 9)) return no(-1);
        if (w.houseAt(cell) >= 0) return no(-3);
        if (w.houses.size() == 8) return no(-5);
        w.houses.add(new int[] {cell, hunger, 0, 0, 0});
        return yes(w.houses.size() - 1);
    }

    public int dairy(int cell) {
        if (!in(cell, 0, 79)) return no(-1);
        if (w.dairies.size() == 4) return no(-5);
        w.dairies.add(cell);
        return yes(w.dairies.size() - 1);
    }

    public int wheel(int size, int ripe) {
        if (!in(size, 1, 9) || !in(ripe, 0, 9)) return no(-1);
        if (w.wheels.size() == 8) return no(-5);
        w.wheels.add(new int[] {size, ripe, 0});
        return yes(w.wheels.size() - 1);
    }

    public int letter(int house, int worth) {
        if (!in(worth, 1, 99)) return no(-1);
        if (!isHouse(house)) return no(-2);
        if (w.letters.size() == 8) return no(-5);
        w.letters.add(new int[] {house, worth});
        return yes(w.letters.size() - 1);
    }

    public int burn() {
        int n = w.letters.size();
        w.letters.clear();
        return n;
    }

    public int at(int cell, int what) {
        if (!in(cell, 0, 79)) return -1;
        int house = w.houseAt(cell);
        if (what == 0) return w.heights[cell];
        if (what == 1) return w.fences[cell];
        if (what == 2) return house;
        if (what == 3) return house < 0 ? -1 : w.houses.get(house)[1];
        if (what == 4) return w.dairies.indexOf(cell);
        return -1;
    }

    public int of(int wheel, int what) {
        return isWheel(wheel) && in(what, 0, 2) ? w.wheels.get(wheel)[what] : -1;
    }

    public int terms(int what, int value) {
        int[][] range = {{0, 99}, {0, 20}, {1, 60}, {0, 9}};
        if (!in(what, 0, 3) || !in(value, range[what][0], range[what][1])) return no(-1);
        int was = w.terms[what];
        w.terms[what] = value;
        return yes(was);
    }

    private boolean isHouse(int h) {
        return in(h, 0, w.houses.size() - 1);
    }

    private boolean isDairy(int d) {
        return in(d, 0, w.dairies.size() - 1);
    }

    private boolean isWheel(int x) {
        return in(x, 0, w.wheels.size() - 1);
    }

    // ---- the tape

    public int feed(int a, int b, int c, int d, int e) {
        if (tape.size() + 20 > 400) return -1;
        for (int n : new int[] {a, b, c, d, e}) {
            tape.add(n >>> 24);
            tape.add(n >>> 16 & 0xff);
            tape.add(n >>> 8 & 0xff);
            tape.add(n & 0xff);
        }
        return tape.size();
    }

    public int end(int n) {
        if (n < 0 || n > tape.size()) return -1;
        tape = new ArrayList<>(tape.subList(0, n));
        return n;
    }

    public int row() {
        List<Integer> t = tape;
        tape = new ArrayList<>();
        if (t.isEmpty() || t.get(0) > 9) return no(-6);
        int told = 0;
        int bad = 0;
        for (int x = 0; x + 1 < t.size(); x++) {
            int v = t.get(x + 1);
            if (x > 7 || v > 99) bad++;
            else {
                w.heights[8 * t.get(0) + x] = v;
                told++;
            }
        }
        crumbs = bad;
        return yes(told);
    }

    public int crumbs() {
        return crumbs;
    }

    // ---- texts

    static final class Parser {
        final List<String> tokens = new ArrayList<>();
        final List<Integer> places = new ArrayList<>();
        final Set<String> words;
        int t = 0;
        int parts = 0;
        int depth = 0;

        Parser(List<Integer> bytes, String words) {
            this.words = new HashSet<>(Arrays.asList(words.split(" ")));
            StringBuilder all = new StringBuilder();
            for (int b : bytes) all.append((char) b);
            java.util.regex.Matcher m = java.util.regex.Pattern.compile("[a-z]+|[0-9]+|[^ ]", java.util.regex.Pattern.DOTALL)
                    .matcher(all);
            while (m.find()) {
                tokens.add(m.group());
                places.add(m.start());
            }
            tokens.add("");
            places.add(all.length());
        }

        String peek() {
            return tokens.get(t);
        }

        Fault bad() {
            return new Fault(places.get(t));
        }

        void need(String s) {
            if (!peek().equals(s)) throw bad();
            t++;
        }

        boolean take(String s) {
            if (!peek().equals(s)) return false;
            t++;
            return true;
        }

        List<Item> all(boolean law) {
            List<Item> items = new ArrayList<>();
            do {
                if (items.size() == 12) throw bad();
                items.add(law ? clause() : order());
            } while (take(";"));
            if (!peek().isEmpty()) throw bad();
            return items;
        }

        Item clause() {
            Item it = new Item();
            it.kind = peek();
            if (take("slows") || take("costs")) it.sums.add(sum());
            else if (!take("shuts") && !take("eats")) throw bad();
            if (take("if")) it.test = test();
            return it;
        }

        Item order() {
            Item it = new Item();
            it.kind = peek();
            if (take("send")) {
                it.sums.add(sum());
                for (String s : new String[] {"from", "toward", "with"}) {
                    need(s);
                    it.sums.add(sum());
                }
            } else if (take("mend")) {
                it.sums.add(sum());
                need("by");
                it.sums.add(sum());
            } else need("wait");
            if (take("times")) {
                if (!peek().matches("[0-9]+")) throw bad();
                java.math.BigInteger n = new java.math.BigInteger(peek());
                if (n.bitLength() > 20 || n.intValue() < 1 || n.intValue() > 20) throw bad();
                it.times = n.intValue();
                t++;
            }
            if (take("if")) it.test = test();
            return it;
        }

        Test test() {
            Test left = both();
            while (take("or")) {
                Test a = left;
                Test b = both();
                left = v -> a.of(v) || b.of(v);
            }
            return left;
        }

        Test both() {
            Test left = plain();
            while (take("and")) {
                Test a = left;
                Test b = plain();
                left = v -> a.of(v) && b.of(v);
            }
            return left;
        }

        void open() {
            if (depth == 8) throw bad();
            depth++;
            t++;
        }

        Test plain() {
            if (take("not")) {
                Test a = plain();
                return v -> !a.of(v);
            }
            if (peek().equals("(")) {
                open();
                Test a = test();
                need(")");
                depth--;
                return a;
            }
            Sum a = sum();
            String op = peek();
            if (!op.equals("<") && !op.equals(">") && !op.equals("=")) throw bad();
            t++;
            Sum b = sum();
            return v -> {
                long x = a.of(v);
                long y = b.of(v);
                return op.equals("<") ? x < y : op.equals(">") ? x > y : x == y;
            };
        }

        static long held(long v) {
            if (Math.abs(v) > 1_000_000_000L) throw new Broken();
            return v;
        }

        Sum sum() {
            Sum left = term();
            while (peek().equals("+") || peek().equals("-")) {
                boolean plus = peek().equals("+");
                t++;
                Sum a = left;
                Sum b = term();
                left = v -> {
                    long x = a.of(v);
                    long y = b.of(v);
                    return held(plus ? x + y : x - y);
                };
            }
            return left;
        }

        Sum term() {
            Sum left = part();
            while (peek().equals("*") || peek().equals("/") || peek().equals("%")) {
                String op = peek();
                t++;
                Sum a = left;
                Sum b = part();
                left = v -> {
                    long x = a.of(v);
                    long y = b.of(v);
                    if (!op.equals("*") && y == 0) throw new Broken();
                    return held(op.equals("*") ? x * y : op.equals("/") ? x / y : x % y);
                };
            }
            return left;
        }

        Sum part() {
            if (peek().equals("[")) {
                open();
                Sum a = sum();
                need("]");
                depth--;
                return a;
            }
            String p = peek();
            if (parts == 50) throw bad();
            if (p.matches("[0-9]+")) {
                java.math.BigInteger n = new java.math.BigInteger(p);
                if (n.compareTo(java.math.BigInteger.valueOf(1000)) > 0) throw bad();
                long v = n.longValue();
                parts++;
                t++;
                return x -> v;
            }
            if (!words.contains(p)) throw bad();
            parts++;
            t++;
            return x -> x.get(p);
        }
    }

    public int law() {
        List<Integer> t = tape;
        tape = new ArrayList<>();
        if (w.laws.size() == 6) return no(-5);
        fault = -1;
        try {
            w.laws.add(new Parser(t, "x y height fence speed size ripe hunger day").all(true));
        } catch (Fault f) {
            fault = f.place;
            return no(-6);
        }
        return yes(w.laws.size() - 1);
    }

    public int orders() {
        List<Integer> t = tape;
        tape = new ArrayList<>();
        fault = -1;
        stopped = -1;
        List<Item> items;
        try {
            items = new Parser(t, "wheels fences day done came last").all(false);
        } catch (Fault f) {
            fault = f.place;
            return no(-6);
        }
        World before = w.copy();
        List<Undo> undosBefore = new ArrayList<>(undos);
        Map<String, Long> v = new HashMap<>();
        v.put("done", 0L);
        v.put("came", 0L);
        v.put("last", -1L);
        for (int i = 0; i < items.size(); i++) {
            for (int k = 0; k < items.get(i).times; k++) {
                if (!order(items.get(i), v)) {
                    w = before;
                    undos = undosBefore;
                    stopped = i;
                    return no(-3);
                }
            }
        }
        return yes(v.get("done").intValue());
    }

    private boolean order(Item it, Map<String, Long> v) {
        long here = 0;
        for (int[] x : w.wheels) if (x[2] == 0) here++;
        long fenced = 0;
        for (int f : w.fences) if (f > 0) fenced++;
        v.put("wheels", here);
        v.put("fences", fenced);
        v.put("day", (long) w.terms[0]);
        if (it.test != null) {
            try {
                if (!it.test.of(v)) return true;
            } catch (Broken b) {
                return true;
            }
        }
        int[] n = new int[it.sums.size()];
        try {
            for (int i = 0; i < n.length; i++) n[i] = (int) it.sums.get(i).of(v);
        } catch (Broken b) {
            return false;
        }
        if (it.kind.equals("wait")) {
            if (w.terms[0] == 99) return false;
            w.terms[0]++;
        } else if (it.kind.equals("mend")) {
            if (!in(n[0], 0, 79) || !in(n[1], 0, 9)) return false;
            w.fences[n[0]] = n[1];
        } else {
            if (!isWheel(n[0]) || !isDairy(n[1]) || !in(n[2], 0, 3) || !in(n[3], 1, 9)) return false;
            if (w.wheels.get(n[0])[2] == 1) return false;
            Roll r = dispatch(n[0] * 160 + n[1] * 40 + n[2] * 10 + n[3]);
            v.put("last", (long) r.end);
            if (r.why == 2 && !r.eaten) v.put("came", v.get("came") + 1);
        }
        v.put("done", v.get("done") + 1);
        return true;
    }

    public int fault() {
        return fault;
    }

    public int stopped() {
        return stopped;
    }

    public int force(int law) {
        if (!in(law, -1, w.laws.size() - 1)) return no(-2);
        int was = w.force;
        w.force = law;
        return yes(was);
    }

    private int told(int cell, int wheel, int speed, int what) {
        String kind = new String[] {"slows", "costs", "shuts", "eats"}[what];
        int answer = what < 2 ? 1 : 0;
        if (w.force < 0) return answer;
        Map<String, Long> v = new HashMap<>();
        v.put("x", (long) cell % 8);
        v.put("y", (long) cell / 8);
        v.put("height", (long) w.heights[cell]);
        v.put("fence", (long) w.fences[cell]);
        v.put("speed", (long) speed);
        v.put("size", (long) w.wheels.get(wheel)[0]);
        v.put("ripe", (long) w.wheels.get(wheel)[1]);
        v.put("hunger", w.houseAt(cell) < 0 ? -1L : w.houses.get(w.houseAt(cell))[1]);
        v.put("day", (long) w.terms[0]);
        for (Item it : w.laws.get(w.force)) {
            if (!it.kind.equals(kind)) continue;
            try {
                if (it.test != null && !it.test.of(v)) continue;
                long n = what < 2 ? it.sums.get(0).of(v) : 1;
                answer = (int) Math.max(0, Math.min(what == 1 ? 999 : 99, n));
            } catch (Broken b) {
                continue;
            }
        }
        return answer;
    }

    public int asks(int cell, int wheel, int speed, int what) {
        if (!in(cell, 0, 79) || !isWheel(wheel) || !in(speed, 0, 99) || !in(what, 0, 3)) return -1;
        return told(cell, wheel, speed, what);
    }

    // ---- rolling

    private int heightAt(int c) {
        return c >= 100 ? 0 : w.heights[c];
    }

    private Roll run(int cell, int direction, int speed, int wheel, Slip slip, Set<Integer> down) {
        Roll r = new Roll();
        int c = cell;
        int d = direction;
        int s = speed;
        int size = w.wheels.get(wheel)[0];
        r.path.add(c);
        r.why = -1;
        while (r.why < 0) {
            r.attempts++;
            boolean slipping = slip.at(r.attempts);
            List<int[]> ways = new ArrayList<>(); // direction, there, pull
            int x = c % 8;
            int y = c / 8;
            int[][] move = {{0, -1}, {1, 0}, {0, 1}, {-1, 0}};
            for (int k = 0; k < 4; k++) {
                int nx = x + move[k][0];
                int ny = y + move[k][1];
                if (nx < 0 || nx > 7 || ny < 0) continue;
                int there = ny > 9 ? 100 + nx : 8 * ny + nx;
                if (there < 100 && told(there, wheel, s, 2) == 1) continue;
                ways.add(new int[] {k, there, heightAt(c) - heightAt(there) + (k == d ? w.terms[1] : 0)});
            }
            ways.sort((a, b) -> a[2] != b[2] ? b[2] - a[2] : a[0] - b[0]);
            if (slipping && ways.size() < 2) r.slippedAll = false;
            if (ways.isEmpty()) {
                r.why = 0;
                break;
            }
            int[] way = ways.get(slipping && ways.size() > 1 ? 1 : 0);
            int there = way[1];
            int n = Math.min(99, s + heightAt(c) - heightAt(there) - told(c, wheel, s, 0));
            if (n < 1) {
                r.why = 0;
                break;
            }
            int strong = there == walled ? 9 : there < 100 ? w.fences[there] : 0;
            if (strong > 0 && !down.contains(there)) {
                if (n * size < 10 * strong) {
                    r.why = 1;
                    break;
                }
                down.add(there);
                r.broke.add(there);
                n = Math.max(1, n - strong);
            }
            c = there;
            d = way[0];
            s = n;
            r.path.add(c);
            if (c >= 100) r.why = 3;
            else if (w.houseAt(c) >= 0) r.why = 2;
            else if (r.path.size() == 61) r.why = 4;
        }
        r.end = c;
        r.speed = s;
        r.eaten = r.why == 2 && told(c, wheel, s, 3) == 1;
        return r;
    }

    private Roll straight(int cell, int direction, int speed, int wheel) {
        return run(cell, direction, speed, wheel, i -> false, new HashSet<>());
    }

    private boolean rollable(int cell, int direction, int speed, int wheel) {
        return in(cell, 0, 79) && in(direction, 0, 3) && in(speed, 0, 99) && isWheel(wheel);
    }

    public int roll(int cell, int direction, int speed, int wheel, int what) {
        if (!rollable(cell, direction, speed, wheel) || !in(what, 0, 5)) return -1;
        Roll r = straight(cell, direction, speed, wheel);
        return new int[] {r.end, r.why, r.path.size() - 1, r.speed, r.broke.size(), r.eaten ? 1 : 0}[what];
    }

    public int path(int cell, int direction, int speed, int wheel, int i) {
        if (!rollable(cell, direction, speed, wheel)) return -1;
        Roll r = straight(cell, direction, speed, wheel);
        return in(i, 0, r.path.size() - 1) ? r.path.get(i) : -1;
    }

    public int broken(int cell, int direction, int speed, int wheel, int i) {
        if (!rollable(cell, direction, speed, wheel)) return -1;
        Roll r = straight(cell, direction, speed, wheel);
        return in(i, 0, r.broke.size() - 1) ? r.broke.get(i) : -1;
    }

    // ---- throws

    private boolean isThrow(int cast) {
        return in(cast, 0, 1279) && cast % 10 > 0 && isWheel(cast / 160) && isDairy(cast % 160 / 40)
                && w.wheels.get(cast / 160)[2] == 0;
    }

    private Roll cast(int cast, Slip slip) {
        return run(w.dairies.get(cast % 160 / 40), cast % 40 / 10, cast % 10, cast / 160, slip, new HashSet<>());
    }

    private int price(int cast) {
        return told(w.dairies.get(cast % 160 / 40), cast / 160, cast % 10, 1);
    }

    /** Ends of all rows: every set of steps is tried, those that can't be are left out. */
    private List<Integer> rows(int cast, int k) {
        List<Integer> ends = new ArrayList<>();
        ends.add(cast(cast, i -> false).end);
        for (int a = 1; a <= 60 && k >= 1; a++) {
            int aa = a;
            Roll one = cast(cast, i -> i == aa);
            if (one.attempts < a || !one.slippedAll) continue;
            ends.add(one.end);
            for (int b = a + 1; b <= 60 && k >= 2; b++) {
                int bb = b;
                Roll two = cast(cast, i -> i == aa || i == bb);
                if (two.attempts < b) break;
                if (two.slippedAll) ends.add(two.end);
            }
        }
        return ends;
    }

    public int slips(int cast, int k, int what) {
        if (!isThrow(cast) || !in(k, 0, 2) || !in(what, 0, 3)) return -1;
        Map<Integer, Integer> by = new java.util.TreeMap<>();
        List<Integer> ends = rows(cast, k);
        for (int e : ends) by.merge(e, 1, Integer::sum);
        if (what == 0) return ends.size();
        if (what == 1) return by.size();
        int most = java.util.Collections.max(by.values());
        if (what == 3) return most;
        for (int e : by.keySet()) if (by.get(e) == most) return e;
        return -1;
    }

    public int ends(int cast, int k, int end) {
        if (!isThrow(cast) || !in(k, 0, 2) || !(in(end, 0, 79) || in(end, 100, 107))) return -1;
        return java.util.Collections.frequency(rows(cast, k), end);
    }

    private Roll dispatch(int cast) {
        Undo u = new Undo();
        u.cast = cast;
        u.before = w.copy();
        undos.add(u);
        if (undos.size() > 8) undos.remove(0);
        Roll r = cast(cast, i -> false);
        if (r.why == 2) w.houses.get(w.houseAt(r.end))[r.eaten ? 3 : 2]++;
        for (int c : r.broke) w.fences[c] = 0;
        w.wheels.get(cast / 160)[2] = 1;
        return r;
    }

    public int send(int cast) {
        if (!in(cast, 0, 1279) || cast % 10 == 0) return no(-1);
        if (!isWheel(cast / 160) || !isDairy(cast % 160 / 40)) return no(-2);
        if (w.wheels.get(cast / 160)[2] == 1) return no(-3);
        return yes(dispatch(cast).end);
    }

    public int undo() {
        if (undos.isEmpty()) return no(-3);
        Undo u = undos.remove(undos.size() - 1);
        w.fences = u.before.fences.clone();
        for (int i = 0; i < w.wheels.size(); i++) {
            w.wheels.get(i)[2] = i < u.before.wheels.size() ? u.before.wheels.get(i)[2] : 0;
        }
        for (int i = 0; i < w.houses.size(); i++) {
            boolean stood = i < u.before.houses.size();
            w.houses.get(i)[2] = stood ? u.before.houses.get(i)[2] : 0;
            w.houses.get(i)[3] = stood ? u.before.houses.get(i)[3] : 0;
        }
        return yes(u.cast);
    }

    public int came(int house, int what) {
        return isHouse(house) && in(what, 0, 1) ? w.houses.get(house)[2 + what] : -1;
    }

    public int aim(int house, int what) {
        if (!isHouse(house) || !in(what, 0, 3)) return -1;
        int n = 0;
        int best = -1;
        int steps = -1;
        for (int cast = 0; cast < 1280; cast++) {
            if (!isThrow(cast)) continue;
            Roll r = cast(cast, i -> false);
            if (r.why != 2 || r.eaten || w.houseAt(r.end) != house) continue;
            n++;
            if (best < 0 || price(cast) < price(best)) {
                best = cast;
                steps = r.path.size() - 1;
            }
        }
        if (what == 0) return n;
        if (best < 0) return -1;
        return what == 1 ? best : what == 2 ? price(best) : steps;
    }

    public int sure(int house, int k, int what) {
        if (!isHouse(house) || !in(k, 0, 1) || !in(what, 0, 2)) return -1;
        int best = -1;
        int hits = 0;
        int all = 1;
        for (int cast = 0; cast < 1280; cast++) {
            if (!isThrow(cast)) continue;
            List<Integer> ends = rows(cast, k);
            int there = java.util.Collections.frequency(ends, w.houses.get(house)[0]);
            if (there * all > hits * ends.size()) {
                best = cast;
                hits = there;
                all = ends.size();
            }
        }
        return best < 0 ? -1 : new int[] {best, hits, all}[what];
    }

    private long bestPost;
    private int[] bestRow;

    public int post(int what) {
        int n = w.letters.size();
        if (!in(what, 0, 2 + n)) return -1;
        int[][] cheap = new int[8][8];
        for (int[] c : cheap) Arrays.fill(c, -1);
        for (int cast = 0; cast < 1280 && n > 0; cast++) {
            if (!isThrow(cast)) continue;
            Roll r = cast(cast, i -> false);
            if (r.why != 2 || r.eaten) continue;
            int h = w.houseAt(r.end);
            int p = price(cast);
            if (cheap[cast / 160][h] < 0 || cheap[cast / 160][h] > p) cheap[cast / 160][h] = p;
        }
        bestPost = Long.MIN_VALUE;
        tryLetters(0, new int[n], 0, 0, cheap);
        int worth = 0;
        int costs = 0;
        int go = 0;
        for (int i = 0; i < n; i++) {
            if (bestRow[i] < 0) continue;
            go++;
            worth += w.letters.get(i)[1];
            costs += cheap[bestRow[i]][w.letters.get(i)[0]];
        }
        return what == 0 ? worth : what == 1 ? costs : what == 2 ? go : bestRow[what - 3];
    }

    private void tryLetters(int i, int[] row, long value, int used, int[][] cheap) {
        if (i == row.length) {
            if (value > bestPost) {
                bestPost = value;
                bestRow = row.clone();
            }
            return;
        }
        int[] letter = w.letters.get(i);
        for (int x = 0; x < w.wheels.size(); x++) {
            if ((used >> x & 1) == 1 || cheap[x][letter[0]] < 0) continue;
            row[i] = x;
            tryLetters(i + 1, row, value + letter[1] * 1000000L - cheap[x][letter[0]], used | 1 << x, cheap);
        }
        row[i] = -1;
        tryLetters(i + 1, row, value, used, cheap);
    }

    public int trace(int cell, int is) {
        if (!in(cell, 0, 79) || !in(is, 0, 1)) return no(-1);
        if (w.traces.size() == 8) return no(-5);
        w.traces.add(new int[] {cell, is});
        return yes(w.traces.size());
    }

    public int forget() {
        int n = w.traces.size();
        w.traces.clear();
        return n;
    }

    public int fits(int i) {
        List<Integer> found = new ArrayList<>();
        for (int cast = 0; cast < 1280; cast++) {
            if (!isThrow(cast)) continue;
            Roll r = cast(cast, k -> false);
            boolean all = true;
            for (int[] t : w.traces) all &= r.broke.contains(t[0]) == (t[1] == 1);
            if (all) found.add(cast);
        }
        return i == -1 ? found.size() : in(i, 0, found.size() - 1) ? found.get(i) : -1;
    }

    public int wall(int cast, int house, int i) {
        if (!isThrow(cast) || !isHouse(house)) return -1;
        List<Integer> found = new ArrayList<>();
        for (int c = 0; c < 80; c++) {
            if (c == w.dairies.get(cast % 160 / 40)) continue;
            walled = c;
            Roll r = cast(cast, k -> false);
            walled = -1;
            if (r.why == 2 && w.houseAt(r.end) == house) found.add(c);
        }
        return i == -1 ? found.size() : in(i, 0, found.size() - 1) ? found.get(i) : -1;
    }

    // ---- rinds: all secrets are tried

    public int share(int secret, int a, int b, int k) {
        if (!in(secret, 0, 96) || !in(a, 0, 96) || !in(b, 0, 96) || !in(k, 1, 5)) return -1;
        return (secret + a * k + b * k * k) % 97;
    }

    public int read(int k, int onK, int m, int onM, int n, int onN) {
        if (!in(k, 1, 5) || !in(m, 1, 5) || !in(n, 1, 5) || k == m || k == n || m == n) return -1;
        for (int s = 0; s < 97; s++) for (int a = 0; a < 97; a++) for (int b = 0; b < 97; b++) {
            if (share(s, a, b, k) == onK && share(s, a, b, m) == onM && share(s, a, b, n) == onN) return s;
        }
        return -1;
    }

    public int odd(int one, int two, int three, int four, int five) {
        int[] on = {0, one, two, three, four, five};
        int answer = -1;
        for (int k = 1; k <= 5; k++) if (!in(on[k], 0, 96)) return -1;
        for (int s = 0; s < 97; s++) for (int a = 0; a < 97; a++) for (int b = 0; b < 97; b++) {
            int wrong = 0;
            int which = 0;
            for (int k = 1; k <= 5 && wrong < 2; k++) if ((s + a * k + b * k * k) % 97 != on[k]) {
                wrong++;
                which = k;
            }
            if (wrong == 0) return 0;
            if (wrong == 1) answer = which;
        }
        return answer;
    }

    // ---- replies

    public int reply(int house, int weight) {
        if (!in(weight, 0, 9)) return no(-1);
        if (!isHouse(house)) return no(-2);
        int was = w.houses.get(house)[4];
        w.houses.get(house)[4] = weight;
        return yes(was);
    }

    private int tour(int from, int set, int home) {
        if (set == 0) return way(from, home);
        int best = Integer.MAX_VALUE;
        for (int h = 0; h < 8; h++) {
            if ((set >> h & 1) == 0) continue;
            int c = w.houses.get(h)[0];
            best = Math.min(best, way(from, c) + tour(c, set & ~(1 << h), home));
        }
        return best;
    }

    private static int way(int a, int b) {
        return Math.abs(a % 8 - b % 8) + Math.abs(a / 8 - b / 8);
    }

    private int[] bestTrips;

    private void partition(int left, int trips, int way, int first, int[] tours) {
        if (left == 0) {
            if (bestTrips == null || trips < bestTrips[0] || trips == bestTrips[0] && (way < bestTrips[1]
                    || way == bestTrips[1] && first < bestTrips[2])) bestTrips = new int[] {trips, way, first};
            return;
        }
        int low = Integer.lowestOneBit(left);
        for (int s = 1; s < 256; s++) {
            if ((s & low) == 0 || (s & ~left) != 0 || tours[s] < 0) continue;
            partition(left & ~s, trips + 1, way + tours[s], trips == 0 ? s : first, tours);
        }
    }

    public int trips(int dairy, int what) {
        if (!isDairy(dairy) || !in(what, 0, 2)) return -1;
        int all = 0;
        for (int h = 0; h < w.houses.size(); h++) if (w.houses.get(h)[4] > 0) all |= 1 << h;
        int home = w.dairies.get(dairy);
        int[] tours = new int[256];
        for (int s = 1; s < 256; s++) {
            tours[s] = -1;
            if ((s & ~all) != 0) continue;
            int load = 0;
            for (int h = 0; h < w.houses.size(); h++) if ((s >> h & 1) == 1) load += w.houses.get(h)[4];
            if (load <= w.terms[2]) tours[s] = tour(home, s, home);
        }
        bestTrips = null;
        partition(all, 0, 0, 0, tours);
        return bestTrips == null ? -1 : bestTrips[what];
    }

    // ---- summers

    private int draw(int m) {
        drawing = (drawing * 1103 + 12345) % 1000003;
        return (int) (drawing % m);
    }

    public int summer(int seed, int n) {
        if (!in(seed, 0, 1000000) || !in(n, 1, 30)) return no(-1);
        summerEnds = new HashMap<>();
        drawing = seed;
        int houses = 0;
        Set<Integer> down = new HashSet<>();
        if (!w.wheels.isEmpty() && !w.dairies.isEmpty()) {
            for (int i = 0; i < n; i++) {
                int wheel = draw(w.wheels.size());
                int dairy = draw(w.dairies.size());
                int direction = draw(4);
                int speed = draw(9) + 1;
                Roll r = run(w.dairies.get(dairy), direction, speed, wheel, k -> draw(10) < w.terms[3], down);
                summerEnds.merge(r.end, 1, Integer::sum);
                if (r.why == 2) houses++;
            }
        }
        return yes(houses);
    }

    public int drawn(int end) {
        if (summerEnds == null || !in(end, 0, 79) && !in(end, 100, 107)) return -1;
        return summerEnds.getOrDefault(end, 0);
    }

    // ---- images

    public int image(int k) {
        if (!in(k, 0, 1)) return no(-1);
        images[k] = w.copy();
        return yes(0);
    }

    public int back(int k) {
        if (!in(k, 0, 1)) return no(-1);
        if (images[k] == null) return no(-2);
        w = images[k].copy();
        undos.clear();
        return yes(0);
    }

    public int count(int what) {
        int gone = 0;
        for (int[] x : w.wheels) gone += x[2];
        int fenced = 0;
        for (int f : w.fences) if (f > 0) fenced++;
        int[] all = {w.houses.size(), w.dairies.size(), w.wheels.size(), gone, w.letters.size(), w.laws.size(),
            w.traces.size(), fenced, undos.size(), tape.size(), refusals.getOrDefault(-1, 0),
            refusals.getOrDefault(-2, 0), refusals.getOrDefault(-3, 0), refusals.getOrDefault(-5, 0),
            refusals.getOrDefault(-6, 0), w.force, w.terms[0], w.terms[1], w.terms[2], w.terms[3]};
        return in(what, 0, all.length - 1) ? all[what] : -1;
    }

    public int status() {
        return status;
    }
}
