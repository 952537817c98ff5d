import java.lang.reflect.Method;
import java.util.ArrayList;
import java.util.List;
import java.util.Random;

/** Runs of calls by fixed seeds, each answer held against the plain model's. */
public final class AgainstModelTest {
    private static final Method[] ON_PROGRAM = methods();
    // No more than 512 calls of one object are promised; a step takes some 60 at most, the counts at the end 21.
    private static final int LAST_STEP = 430;
    private final Random random;
    private final CheesePost program = new CheesePost();
    private final CheesePostModel model = new CheesePostModel();
    private final List<String> log = new ArrayList<>();
    private final boolean small;
    private final boolean gentle;
    private int houses;
    private int dairies;
    private int wheels;
    private int calls = 0;

    private AgainstModelTest(long seed) {
        // Seeds that follow one another begin alike, so they are spread first.
        random = new Random(seed * 0x9E3779B97F4A7C15L);
        small = random.nextInt(4) > 0;
        // On a slope left nearly bare WHEELS come to HOUSES often.
        gentle = random.nextInt(2) > 0;
    }

    public static void main(String[] args) throws Exception {
        long from = args.length > 0 ? Long.parseLong(args[0]) : 1;
        long to = args.length > 1 ? Long.parseLong(args[1]) : 300;
        for (long seed = from; seed <= to; seed++) {
            AgainstModelTest test = new AgainstModelTest(seed);
            if (!test.run()) {
                System.out.println("seed " + seed + " went wrong:");
                for (String line : test.log.subList(Math.max(0, test.log.size() - 40), test.log.size())) {
                    System.out.println("  " + line);
                }
                System.exit(1);
            }
        }
        System.out.println("runs " + from + " to " + to + " are as the model's");
    }

    /** In order of their names: the machine tells them in any order, and runs are to stay the same. */
    private static Method[] methods() {
        Method[] all = CheesePost.class.getDeclaredMethods();
        java.util.Arrays.sort(all, java.util.Comparator.comparing(Method::toString));
        return all;
    }

    private static Method named(String name) {
        for (Method m : ON_PROGRAM) {
            if (m.getName().equals(name) && java.lang.reflect.Modifier.isPublic(m.getModifiers())) {
                return m;
            }
        }
        throw new IllegalStateException(name);
    }

    private boolean call(String name, Integer... args) throws Exception {
        Method m = named(name);
        calls++;
        int got = (Integer) m.invoke(program, (Object[]) args);
        int want = (Integer) CheesePostModel.class.getMethod(name, m.getParameterTypes()).invoke(model, (Object[]) args);
        log.add(name + java.util.Arrays.toString(args) + " answered " + got + (got == want ? "" : ", due is " + want));
        return got == want;
    }

    /** What a run asks of the program alone, to know what it can call next. */
    private int counted(int what) {
        calls++;
        return program.count(what);
    }

    private int below(int n) {
        return random.nextInt(n);
    }

    /** Mostly a number within bounds, sometimes one beside them. */
    private int near(int least, int most) {
        int dice = below(40);
        if (dice == 0) return least - 1 - below(3);
        if (dice == 1) return most + 1 + below(3);
        if (dice == 2 && below(10) == 0) return below(2) == 0 ? Integer.MIN_VALUE : Integer.MAX_VALUE;
        return most < least ? least : least + below(most - least + 1);
    }

    private int cast() {
        int cast = below(Math.max(1, wheels)) * 160 + below(Math.max(1, dairies)) * 40 + below(4) * 10 + 1 + below(9);
        return below(20) == 0 ? near(-2, 1290) : cast;
    }

    private boolean run() throws Exception {
        for (int i = 0; i < (gentle ? 2 : 4); i++) {
            if (!setUp()) return false;
        }
        int steps = 60 + below(200);
        for (int i = 0; i < steps && calls < LAST_STEP; i++) {
            if (!(below(6) == 0 ? wild() : step())) return false;
        }
        for (int i = 0; i < 21; i++) {
            if (!call("count", i)) return false;
        }
        return true;
    }

    private boolean setUp() throws Exception {
        if (gentle) {
            for (int i = 0; i < 3; i++) {
                int cell = below(80);
                if (!call("height", cell, Math.max(0, Math.min(99, 90 - cell / 8 * 10 + below(12) - 6)))) return false;
            }
        } else if (below(3) == 0) {
            for (int c = 0; c < 80; c++) {
                if (below(3) > 0 && !call("height", c, below(100))) return false;
            }
        } else {
            for (int i = 0; i < 10; i++) {
                if (!call("height", below(80), below(100))) return false;
            }
        }
        for (int i = 0; i < 6; i++) {
            if (!call("fence", below(80), below(4) == 0 ? 9 : below(5))) return false;
        }
        return make("dairy") && make("house") && make("house") && make("wheel") && make("wheel");
    }

    private boolean make(String what) throws Exception {
        int most = small ? 3 : 9;
        if (what.equals("house")) {
            int cell = gentle && dairies > 0 ? model.w.dairies.get(below(dairies)) + 8 * below(6) + below(3) - 1 : near(0, 79);
            boolean ok = call("house", cell, near(0, 9));
            houses = counted(0);
            return ok;
        }
        if (what.equals("dairy")) {
            if (dairies >= (small ? 2 : 9)) return true;
            boolean ok = call("dairy", below(2) == 0 ? near(0, 15) : near(0, 79));
            dairies = counted(1);
            return ok;
        }
        if (wheels >= most) return true;
        boolean ok = call("wheel", near(1, 9), near(0, 9));
        wheels = counted(2);
        return ok;
    }

    private boolean step() throws Exception {
        if (counted(3) * 2 > wheels && below(2) == 0) return call("undo");
        switch (below(40)) {
            case 0: return gentle || call("height", near(0, 79), near(0, 99));
            case 1: return call("fence", near(0, 79), near(0, 9));
            case 2: return below(3) > 0 || make("house");
            case 3: return make("dairy");
            case 4: return make("wheel");
            case 5: return call("letter", near(0, houses - 1), near(1, 99));
            case 6: return below(8) > 0 || call("burn");
            case 7: return call("at", near(0, 79), near(0, 4)) && call("of", near(0, wheels - 1), near(0, 2));
            case 8: {
                int what = below(4);
                return call("terms", near(0, 3) == what ? what : near(0, 3), near(0, what == 0 ? 99 : 20));
            }
            case 9: return tapeGames();
            case 10: return gentle && below(5) > 0 || heightRow();
            case 11:
            case 12: return lawText();
            case 13:
            case 14:
            case 15: return orderText();
            case 16: return call("force", near(-1, counted(5) - 1));
            case 17: return asks();
            case 18:
            case 19: return rolls();
            case 20: return slipRows();
            case 21: return call("send", cast()) && call("came", near(0, houses - 1), near(0, 1));
            case 22: return call("send", cast()) && call("status");
            case 23: return call("undo");
            case 24: return aims();
            case 25: return !small && below(10) > 0 || call("sure", near(0, houses - 1), near(0, 1), near(0, 2));
            case 26: return posts();
            case 27: return call("trace", near(0, 79), near(0, 1));
            case 28: return below(3) > 0 || call("forget");
            case 29: return call("fits", -1) && call("fits", near(-1, 40)) && traceBroken();
            case 30: return walls();
            case 31: return rinds();
            case 32: return call("reply", near(0, houses - 1), near(0, 9));
            case 33: return call("trips", near(0, dairies - 1), near(0, 2));
            case 34: return summer();
            case 35: return below(3) > 0 || call("image", near(0, 1));
            case 36: return below(3) > 0 || back();
            case 37: return call("status") && call("count", near(0, 19));
            case 38: return call("terms", 2, near(1, 60)) && call("terms", 1, near(0, 20));
            default: return call("fault") && call("stopped") && call("crumbs");
        }
    }

    private static final int[] POOL = {Integer.MIN_VALUE, -1000, -2, -1, 0, 0, 1, 1, 2, 3, 4, 5, 7, 8, 9, 10, 20, 21, 25, 40,
        60, 79, 80, 96, 97, 99, 100, 103, 107, 108, 159, 161, 185, 1000, 1279, 1280, 1000000, 1000001, Integer.MAX_VALUE};

    /** Any call with numbers from the edges of all bounds. */
    private boolean wild() throws Exception {
        Method m = ON_PROGRAM[below(ON_PROGRAM.length)];
        if (!java.lang.reflect.Modifier.isPublic(m.getModifiers()) || m.getName().equals("sure") && !small) return true;
        Integer[] args = new Integer[m.getParameterCount()];
        for (int i = 0; i < args.length; i++) args[i] = POOL[below(3) == 0 ? below(POOL.length) : 3 + below(12)];
        boolean ok = call(m.getName(), args);
        houses = counted(0);
        dairies = counted(1);
        wheels = counted(2);
        return ok;
    }

    private boolean back() throws Exception {
        boolean ok = call("back", near(0, 1));
        houses = counted(0);
        dairies = counted(1);
        wheels = counted(2);
        return ok && call("status");
    }

    private boolean traceBroken() throws Exception {
        int cast = cast();
        calls += 2;
        if (program.slips(cast, 0, 0) < 0 || below(2) == 0) return true;
        int cell = program.broken(model.w.dairies.get(cast % 160 / 40), cast % 40 / 10, cast % 10, cast / 160, 0);
        return cell < 0 || call("trace", cell, 1);
    }

    private boolean tapeGames() throws Exception {
        return call("feed", random.nextInt(), random.nextInt(), random.nextInt(), random.nextInt(), random.nextInt())
                && call("end", near(-1, 30)) && call("count", 9);
    }

    private boolean heightRow() throws Exception {
        if (!call("end", 0)) return false;
        StringBuilder text = new StringBuilder();
        text.append((char) near(0, 9));
        int n = below(12);
        for (int i = 0; i < n; i++) text.append((char) (below(5) == 0 ? below(256) : below(100)));
        return (below(10) == 0 || put(text.toString())) && call("row") && call("crumbs");
    }

    private boolean put(String text) throws Exception {
        int before = counted(9);
        for (int i = 0; i < text.length(); i += 20) {
            Integer[] five = new Integer[5];
            for (int k = 0; k < 5; k++) {
                int n = 0;
                for (int b = 0; b < 4; b++) {
                    int at = i + 4 * k + b;
                    n = n << 8 | (at < text.length() ? text.charAt(at) & 255 : 0);
                }
                five[k] = n;
            }
            if (!call("feed", five)) return false;
        }
        log.add("that was: " + text);
        return call("end", before + text.length());
    }

    // ---- texts

    private String sum(int depth, String[] words) {
        StringBuilder s = new StringBuilder(part(depth, words));
        while (below(3) == 0) {
            String[] ops = {"+", "-", "*", "/", "%"};
            s.append(blank()).append(ops[below(5)]).append(blank()).append(part(depth, words));
        }
        return s.toString();
    }

    private String part(int depth, String[] words) {
        if (depth > 0 && below(5) == 0) return "[" + sum(depth - 1, words) + "]";
        if (below(2) == 0) return words[below(words.length)];
        return Integer.toString(below(10) == 0 ? near(0, 1000) & 2047 : below(12));
    }

    private String test(int depth, String[] words) {
        StringBuilder s = new StringBuilder(plain(depth, words));
        while (below(3) == 0) s.append(below(2) == 0 ? " or " : " and ").append(plain(depth, words));
        return s.toString();
    }

    private String plain(int depth, String[] words) {
        int dice = below(8);
        if (dice == 0) return "not " + plain(depth, words);
        if (dice == 1 && depth > 0) return "(" + test(depth - 1, words) + ")";
        String[] ops = {"<", ">", "="};
        return sum(depth, words) + blank() + ops[below(3)] + blank() + sum(depth, words);
    }

    private String blank() {
        return below(3) == 0 ? " " : "";
    }

    private String spoiled(String text) {
        if (below(4) > 0 || text.isEmpty()) return text;
        int at = below(text.length());
        int dice = below(4);
        if (dice == 0) return text.substring(0, at);
        if (dice == 1) return text.substring(0, at) + text.substring(at + 1);
        if (dice == 2) return text.substring(0, at) + (char) below(256) + text.substring(at);
        String[] bits = {" ", "[", "(", ")", "]", "not ", ";", "51", " if ", " or ", " and ", "1001", "x", " times 20 "};
        return text.substring(0, at) + bits[below(bits.length)] + text.substring(at);
    }

    private static final String[] LAW_WORDS = {"x", "y", "height", "fence", "speed", "size", "ripe", "hunger", "day"};
    private static final String[] ORDER_WORDS = {"wheels", "fences", "day", "done", "came", "last"};

    private boolean lawText() throws Exception {
        StringBuilder s = new StringBuilder();
        int n = below(15) == 0 ? 11 + below(3) : 1 + below(5);
        for (int i = 0; i < n; i++) {
            if (i > 0) s.append(blank()).append(";").append(blank());
            int kind = below(4);
            s.append(new String[] {"slows ", "costs ", "shuts", "eats"}[kind]);
            if (kind < 2) s.append(n > 8 ? "1" : below(4) == 0 ? "fence * " + below(9) : sum(2, LAW_WORDS));
            if (kind == 2 && below(3) == 0) s.append(" if fence > " + below(9));
            else if (kind == 2 && below(3) > 0) s.append(" if x = " + below(8) + " and y > " + below(9));
            else if (kind == 3 && below(2) == 0) s.append(" if hunger > " + below(9));
            else if (n <= 8 && below(3) > 0 || kind == 2) s.append(" if ").append(test(3, LAW_WORDS));
        }
        String text = spoiled(s.toString());
        if (text.length() > 380) text = text.substring(0, 380);
        if (!call("end", 0) || !put(text)) return false;
        int before = counted(5);
        return call("law") && call("fault") && call("status") && (counted(5) == before || call("force", before));
    }

    private boolean orderText() throws Exception {
        StringBuilder s = new StringBuilder();
        int n = below(15) == 0 ? 11 + below(3) : 1 + below(4);
        for (int i = 0; i < n; i++) {
            if (i > 0) s.append(blank()).append(";").append(blank());
            int kind = n > 8 ? 2 : below(3);
            if (kind == 0) {
                s.append("send ").append(below(4) == 0 ? sum(1, ORDER_WORDS) : "" + below(Math.max(1, wheels)));
                s.append(" from ").append(below(Math.max(1, dairies)));
                s.append(" toward ").append(below(6) == 0 ? sum(1, ORDER_WORDS) : "" + below(4));
                s.append(" with ").append(below(4) == 0 ? sum(1, ORDER_WORDS) : "" + (1 + below(9)));
            } else if (kind == 1) {
                s.append("mend ").append(below(3) == 0 ? sum(1, ORDER_WORDS) : "" + below(80));
                s.append(" by ").append(below(3) == 0 ? sum(1, ORDER_WORDS) : "" + below(10));
            } else s.append("wait");
            if (below(4) == 0) s.append(" times ").append(near(1, below(4) == 0 ? 20 : 4) & 31);
            if (n <= 8 && below(3) == 0) s.append(" if ").append(test(2, ORDER_WORDS));
        }
        String text = spoiled(s.toString());
        if (text.length() > 380) text = text.substring(0, 380);
        return call("end", 0) && put(text) && call("orders") && call("fault") && call("stopped") && call("status")
                && call("count", 8) && call("count", 3) && call("count", 7) && call("count", 16);
    }

    // ---- questions

    private boolean asks() throws Exception {
        for (int what = 0; what < 4; what++) {
            if (!call("asks", near(0, 79), near(0, wheels - 1), near(0, 99), what)) return false;
        }
        return call("asks", near(0, 79), near(0, wheels - 1), near(0, 99), near(0, 3));
    }

    private boolean rolls() throws Exception {
        int cell = near(0, 79);
        int direction = near(0, 3);
        int speed = near(0, below(3) == 0 ? 99 : 15);
        int wheel = near(0, wheels - 1);
        for (int what = 0; what < 6; what++) {
            if (!call("roll", cell, direction, speed, wheel, what)) return false;
        }
        return call("roll", cell, direction, speed, wheel, near(0, 5)) && call("path", cell, direction, speed, wheel, near(0, 12))
                && call("broken", cell, direction, speed, wheel, near(0, 1));
    }

    private boolean slipRows() throws Exception {
        int cast = cast();
        int k = near(0, 2);
        for (int what = 0; what < 4; what++) {
            if (!call("slips", cast, k, what)) return false;
        }
        calls++;
        int end = program.slips(cast, k, 2);
        return call("ends", cast, k, end) && call("ends", cast, k, below(2) == 0 ? near(0, 79) : near(100, 107));
    }

    private boolean aims() throws Exception {
        int house = near(0, houses - 1);
        return call("aim", house, 0) && call("aim", house, 1) && call("aim", house, 2) && call("aim", house, near(0, 3));
    }

    private boolean posts() throws Exception {
        int letters = counted(4);
        if (letters > 6 && below(10) > 0) return true;
        for (int what = 0; what < 3 + letters; what++) {
            if (!call("post", what)) return false;
        }
        return call("post", near(0, 2 + letters));
    }

    private boolean walls() throws Exception {
        int cast = cast();
        for (int i = 0; i < houses; i++) {
            if (!call("wall", cast, i, -1)) return false;
        }
        int house = near(0, houses - 1);
        return call("wall", cast, house, -1) && call("wall", cast, house, near(-1, 70));
    }

    private boolean rinds() throws Exception {
        int s = near(0, 96);
        int a = near(0, 96);
        int b = near(0, 96);
        if (!call("share", s, a, b, near(1, 5))) return false;
        Integer[] on = new Integer[5];
        calls += 5;
        for (int k = 1; k <= 5; k++) on[k - 1] = program.share(s, a, b, k);
        int lies = below(4);
        for (int i = 0; i < lies; i++) on[below(5)] = near(0, 96);
        if (below(3) == 0 && !call("odd", on)) return false;
        int k = 1 + below(5);
        int m = near(1, 5);
        int n = near(1, 5);
        return call("read", k, on[k - 1], m, on[(m & 7) % 5], n, near(0, 96));
    }

    private boolean summer() throws Exception {
        if (!call("terms", 3, below(10)) || !call("summer", near(0, 1000000), near(1, 30))) return false;
        for (int i = 0; i < 110; i++) {
            if ((i < 80 ? below(8) == 0 : true) && !call("drawn", i)) return false;
        }
        return true;
    }
}
