import java.util.Arrays;

/** Alps from which post goes in wheels of cheese let roll. */
public final class CheesePost {
    public static final int NONE = -1;

    private static final int BAD_NUMBER = -1;
    private static final int NO_SUCH = -2;
    private static final int CANNOT = -3;
    private static final int NO_ROOM = -5;
    private static final int BAD_TEXT = -6;

    private static final int CELLS = 80;
    private static final int ACROSS = 8;
    private static final int LAST_ROW = 9;
    private static final int VALLEY = 100;
    private static final int END_NUMBERS = 108;

    private static final int MOST_HOUSES = 8;
    private static final int MOST_DAIRIES = 4;
    private static final int MOST_WHEELS = 8;
    private static final int MOST_LETTERS = 8;
    private static final int MOST_LAWS = 6;
    private static final int MOST_TRACES = 8;
    private static final int MOST_UNDONE = 8;
    private static final int MOST_STEPS = 60;
    private static final int TAPE_BYTES = 400;

    private static final int DAY = 0;
    private static final int KEEP = 1;
    private static final int LOAD = 2;
    private static final int SLIP = 3;
    private static final int[] TERM_LEAST = {0, 0, 1, 0};
    private static final int[] TERM_MOST = {99, 20, 60, 9};

    // A THROW is told as WHEEL * 160 + DAIRY * 40 + DIRECTION * 10 + SPEED.
    private static final int ALL_CASTS = 1280;

    // Why a WHEEL no longer rolls.
    private static final int ROLLS_ON = -1;
    private static final int STAYS = 0;
    private static final int FENCED = 1;
    private static final int AT_HOUSE = 2;
    private static final int IN_VALLEY = 3;
    private static final int TIRED = 4;
    private static final int WALL = 9;
    private static final int FASTEST = 99;
    private static final int SPEEDS = 100;

    // What a LAW can tell; the numbers are those that asks() takes.
    private static final int SLOWS = 0;
    private static final int COSTS = 1;
    private static final int SHUTS = 2;
    private static final int EATS = 3;

    // What an ORDER can be.
    private static final int SENDS = 0;
    private static final int MENDS = 1;

    // Sorts of TOKENS: a sign is its own byte, a known word WORD and its place in WORDS.
    private static final int TEXT_END = -1;
    private static final int NUMBER = 256;
    private static final int STRANGE = 257;
    private static final int WORD = 300;
    private static final String WORDS = "slows costs shuts eats send mend wait if or and not from toward with by times x y height fence speed size ripe hunger day wheels fences done came last ";
    private static final int FIRST_CLAUSE = WORD;
    private static final int FIRST_ORDER = WORD + 4;
    private static final int IF = WORD + 7;
    private static final int OR = WORD + 8;
    private static final int AND = WORD + 9;
    private static final int NOT = WORD + 10;
    private static final int FROM = WORD + 11;
    private static final int BY = WORD + 14;
    private static final int TIMES = WORD + 15;
    private static final int LAW_PARTS = WORD + 16;
    // "day" is the last word of the LAWS and the first of the ORDERS.
    private static final int ORDER_PARTS = WORD + 24;
    private static final int BEHIND_WORDS = WORD + 30;

    private static final int MOST_ITEMS = 12;
    private static final int MOST_PARTS = 50;
    private static final int MOST_BRACKETS = 8;
    private static final int HIGHEST_NUMBER = 1000;
    private static final int MOST_TIMES = 20;
    private static final int SUMS = 4;

    // What the code of a TEXT is made of: an op in the low four bits, what it needs above them.
    private static final int OP_STOP = 0;
    private static final int OP_NUMBER = 1;
    private static final int OP_WORD = 2;
    private static final int OP_OR = 3;
    private static final int OP_AND = 4;
    private static final int OP_NOT = 5;
    private static final int OP_ADD = 6;
    private static final int OP_LESS_BY = 7;
    private static final int OP_TIMES = 8;
    private static final int OP_DIVIDE = 9;
    private static final int OP_REST = 10;
    private static final int OP_BELOW = 11;
    private static final int OP_ABOVE = 12;
    private static final int OP_ALIKE = 13;
    // How many values each op takes from the stack.
    private static final int[] OP_NEEDS = {1, 0, 0, 1, 1, 1, 2, 2, 2, 2, 2, 2, 2, 2, 2, 2};
    private static final int CODE_ROOM = 512;
    private static final int STACK_ROOM = 64;
    private static final long BILLION = 1_000_000_000L;
    // Beyond what any SUM may make, so that it is found BROKEN wherever it comes up.
    private static final long BROKEN = -2_000_000_000L;

    private static final int RINDS = 5;
    private static final int PRIME = 97;

    private final Alps alps = new Alps();
    private final Alps[] images = {new Alps(), new Alps()};
    private final boolean[] kept = new boolean[2];
    private final int[] tape = new int[TAPE_BYTES];
    private int tapeLength = 0;
    private int crumbs = 0;
    private int fault = NONE;
    private int stopped = NONE;
    private int status = 0;
    private final int[] refusals = new int[5];
    private final Judge judge = new Judge(alps);
    private final Ride ride = new Ride(alps, judge);
    private final Casts casts = new Casts(alps, judge);
    private final Sends sends = new Sends(alps, ride);
    private final Reader reader = new Reader();
    private final Clerk clerk = new Clerk(alps, sends);
    private final Carrier carrier = new Carrier(alps);
    private final int[] summerEnds = new int[END_NUMBERS];
    private int drawing = 0;

    public CheesePost() {
        // Ahead of any SUMMER there is none to tell of.
        Arrays.fill(summerEnds, NONE);
    }

    public int height(int cell, int height) {
        if (!isCell(cell) || !within(height, 0, 99)) {
            return refused(BAD_NUMBER);
        }
        int was = alps.meadow.heights[cell];
        alps.meadow.heights[cell] = height;
        return answered(was);
    }

    public int fence(int cell, int strong) {
        if (!isCell(cell) || !within(strong, 0, 9)) {
            return refused(BAD_NUMBER);
        }
        int was = alps.meadow.fences[cell];
        alps.meadow.fences[cell] = strong;
        return answered(was);
    }

    public int house(int cell, int hunger) {
        if (!isCell(cell) || !within(hunger, 0, 9)) {
            return refused(BAD_NUMBER);
        }
        if (alps.meadow.houseAt[cell] != NONE) {
            return refused(CANNOT);
        }
        if (alps.meadow.houses >= MOST_HOUSES) {
            return refused(NO_ROOM);
        }
        return answered(alps.meadow.build(cell, hunger));
    }

    public int dairy(int cell) {
        if (!isCell(cell)) {
            return refused(BAD_NUMBER);
        }
        Meadow meadow = alps.meadow;
        if (meadow.dairies >= MOST_DAIRIES) {
            return refused(NO_ROOM);
        }
        meadow.dairyCells[meadow.dairies] = cell;
        meadow.dairies++;
        return answered(meadow.dairies - 1);
    }

    public int wheel(int size, int ripe) {
        if (!within(size, 1, 9) || !within(ripe, 0, 9)) {
            return refused(BAD_NUMBER);
        }
        if (alps.wheels >= MOST_WHEELS) {
            return refused(NO_ROOM);
        }
        alps.sizes[alps.wheels] = size;
        alps.ripes[alps.wheels] = ripe;
        alps.gone[alps.wheels] = 0;
        alps.wheels++;
        return answered(alps.wheels - 1);
    }

    public int letter(int house, int worth) {
        if (!within(worth, 1, 99)) {
            return refused(BAD_NUMBER);
        }
        if (!isHouse(house)) {
            return refused(NO_SUCH);
        }
        if (alps.letters >= MOST_LETTERS) {
            return refused(NO_ROOM);
        }
        alps.letterHouses[alps.letters] = house;
        alps.letterWorths[alps.letters] = worth;
        alps.letters++;
        return answered(alps.letters - 1);
    }

    public int burn() {
        int were = alps.letters;
        alps.letters = 0;
        return were;
    }

    public int at(int cell, int what) {
        if (!isCell(cell)) {
            return NONE;
        }
        Meadow meadow = alps.meadow;
        switch (what) {
            case 0: return meadow.heights[cell];
            case 1: return meadow.fences[cell];
            case 2: return meadow.houseAt[cell];
            case 3: return meadow.hungerAt[cell];
            case 4: return meadow.firstDairyAt(cell);
            default: return NONE;
        }
    }

    public int of(int wheel, int what) {
        if (!isWheel(wheel)) {
            return NONE;
        }
        switch (what) {
            case 0: return alps.sizes[wheel];
            case 1: return alps.ripes[wheel];
            case 2: return alps.gone[wheel];
            default: return NONE;
        }
    }

    public int terms(int what, int value) {
        if (!within(what, DAY, SLIP) || !within(value, TERM_LEAST[what], TERM_MOST[what])) {
            return refused(BAD_NUMBER);
        }
        int was = alps.terms[what];
        alps.terms[what] = value;
        return answered(was);
    }

    public int feed(int a, int b, int c, int d, int e) {
        if (tapeLength + 20 > TAPE_BYTES) {
            return NONE;
        }
        putFour(a);
        putFour(b);
        putFour(c);
        putFour(d);
        putFour(e);
        return tapeLength;
    }

    public int end(int n) {
        if (!within(n, 0, tapeLength)) {
            return NONE;
        }
        tapeLength = n;
        return n;
    }

    public int row() {
        int length = tapeLength;
        tapeLength = 0;
        if (length == 0 || tape[0] > LAST_ROW) {
            return refused(BAD_TEXT);
        }
        int start = tape[0] * ACROSS;
        int told = 0;
        for (int i = 1; i < length; i++) {
            if (i <= ACROSS && tape[i] <= 99) {
                alps.meadow.heights[start + i - 1] = tape[i];
                told++;
            }
        }
        crumbs = length - 1 - told;
        return answered(told);
    }

    public int crumbs() {
        return crumbs;
    }

    public int law() {
        int length = tapeLength;
        tapeLength = 0;
        if (alps.lawCount >= MOST_LAWS) {
            return refused(NO_ROOM);
        }
        fault = reader.parse(tape, length, true);
        if (fault != NONE) {
            return refused(BAD_TEXT);
        }
        alps.laws[alps.lawCount] = reader.draft.trimmed();
        alps.lawCount++;
        return answered(alps.lawCount - 1);
    }

    public int orders() {
        int length = tapeLength;
        tapeLength = 0;
        stopped = NONE;
        fault = reader.parse(tape, length, false);
        if (fault != NONE) {
            return refused(BAD_TEXT);
        }
        Text text = reader.draft;
        clerk.begin();
        for (int i = 0; i < text.size; i++) {
            for (int k = 0; k < text.times[i]; k++) {
                judge.renew();
                if (!clerk.tries(text, i)) {
                    clerk.takeBack();
                    stopped = i;
                    return refused(CANNOT);
                }
            }
        }
        return answered(clerk.done);
    }

    public int fault() {
        return fault;
    }

    public int stopped() {
        return stopped;
    }

    public int force(int law) {
        if (law != NONE && !within(law, 0, alps.lawCount - 1)) {
            return refused(NO_SUCH);
        }
        int was = alps.inForce;
        alps.inForce = law;
        return answered(was);
    }

    public int asks(int cell, int wheel, int speed, int what) {
        if (!isCell(cell) || !isWheel(wheel) || !within(speed, 0, FASTEST) || !within(what, SLOWS, EATS)) {
            return NONE;
        }
        judge.renew();
        return judge.told(what, cell, wheel, speed);
    }

    public int roll(int cell, int direction, int speed, int wheel, int what) {
        if (!rollsOnPaper(cell, direction, speed, wheel)) {
            return NONE;
        }
        switch (what) {
            case 0: return ride.cell;
            case 1: return ride.why;
            case 2: return ride.steps;
            case 3: return ride.speed;
            case 4: return ride.breaks;
            case 5: return ride.isEaten() ? 1 : 0;
            default: return NONE;
        }
    }

    public int path(int cell, int direction, int speed, int wheel, int i) {
        if (!rollsOnPaper(cell, direction, speed, wheel) || !within(i, 0, ride.steps)) {
            return NONE;
        }
        return ride.cellsPassed[i];
    }

    public int broken(int cell, int direction, int speed, int wheel, int i) {
        if (!rollsOnPaper(cell, direction, speed, wheel) || !within(i, 0, ride.breaks - 1)) {
            return NONE;
        }
        return ride.cellsBroken[i];
    }

    public int slips(int cast, int k, int what) {
        if (!casts.canBe(cast) || !within(k, 0, 2) || !within(what, 0, 3)) {
            return NONE;
        }
        judge.renew();
        casts.countRows(cast, k);
        if (what == 0) {
            return casts.rows;
        }
        return what == 1 ? casts.unlikeEnds() : casts.commonEnd(what == 3);
    }

    public int ends(int cast, int k, int end) {
        if (!casts.canBe(cast) || !within(k, 0, 2) || !isEnd(end)) {
            return NONE;
        }
        judge.renew();
        casts.countRows(cast, k);
        return casts.rowEnds[end];
    }

    public int send(int cast) {
        if (!within(cast, 0, ALL_CASTS - 1) || cast % 10 == 0) {
            return refused(BAD_NUMBER);
        }
        if (!isWheel(wheelOf(cast)) || !isDairy(dairyOf(cast))) {
            return refused(NO_SUCH);
        }
        if (alps.gone[wheelOf(cast)] != 0) {
            return refused(CANNOT);
        }
        judge.renew();
        sends.launch(cast);
        return answered(ride.cell);
    }

    public int undo() {
        if (sends.size == 0) {
            return refused(CANNOT);
        }
        return answered(sends.takeBack());
    }

    public int came(int house, int what) {
        if (!isHouse(house) || !within(what, 0, 1)) {
            return NONE;
        }
        return what == 0 ? alps.meadow.uneaten[house] : alps.meadow.eaten[house];
    }

    public int aim(int house, int what) {
        if (!isHouse(house) || !within(what, 0, 3)) {
            return NONE;
        }
        judge.renew();
        casts.aimAt(house);
        switch (what) {
            case 0: return casts.found;
            case 1: return casts.best;
            case 2: return casts.bestCost;
            default: return casts.bestSteps;
        }
    }

    public int sure(int house, int k, int what) {
        if (!isHouse(house) || !within(k, 0, 1) || !within(what, 0, 2)) {
            return NONE;
        }
        judge.renew();
        casts.findSurest(alps.meadow.houseCells[house], k);
        if (casts.best == NONE) {
            return NONE;
        }
        if (what == 0) {
            return casts.best;
        }
        return what == 1 ? casts.bestHits : casts.bestRows;
    }

    public int post(int what) {
        if (!within(what, 0, 2 + alps.letters)) {
            return NONE;
        }
        judge.renew();
        casts.findCheapest();
        casts.deliver();
        switch (what) {
            case 0: return casts.postWorth;
            case 1: return casts.postCosts;
            case 2: return casts.postGoing;
            default: return casts.letterWheels[what - 3];
        }
    }

    public int trace(int cell, int is) {
        if (!isCell(cell) || !within(is, 0, 1)) {
            return refused(BAD_NUMBER);
        }
        if (alps.traces >= MOST_TRACES) {
            return refused(NO_ROOM);
        }
        alps.traceCells[alps.traces] = cell;
        alps.traceBroken[alps.traces] = is;
        alps.traces++;
        return answered(alps.traces);
    }

    public int forget() {
        int were = alps.traces;
        alps.traces = 0;
        return were;
    }

    public int fits(int i) {
        if (i < NONE) {
            return NONE;
        }
        judge.renew();
        int found = 0;
        for (int cast = 0; cast < ALL_CASTS; cast++) {
            if (casts.canBe(cast) && casts.breaksAsTraced(cast)) {
                if (found == i) {
                    return cast;
                }
                found++;
            }
        }
        return i == NONE ? found : NONE;
    }

    public int wall(int cast, int house, int i) {
        if (!casts.canBe(cast) || !isHouse(house) || i < NONE) {
            return NONE;
        }
        judge.renew();
        int found = 0;
        for (int cell = 0; cell < CELLS; cell++) {
            if (cell != alps.meadow.dairyCells[dairyOf(cast)] && casts.walledEndsAt(cast, cell, house)) {
                if (found == i) {
                    return cell;
                }
                found++;
            }
        }
        return i == NONE ? found : NONE;
    }

    public int share(int secret, int a, int b, int k) {
        if (!isOnRind(secret) || !isOnRind(a) || !isOnRind(b) || !isRind(k)) {
            return NONE;
        }
        return (secret + a * k + b * k * k) % PRIME;
    }

    public int read(int k, int onK, int m, int onM, int n, int onN) {
        if (!isRind(k) || !isRind(m) || !isRind(n) || k == m || k == n || m == n) {
            return NONE;
        }
        if (!isOnRind(onK) || !isOnRind(onM) || !isOnRind(onN)) {
            return NONE;
        }
        return curveAt(0, k, onK, m, onM, n, onN);
    }

    public int odd(int one, int two, int three, int four, int five) {
        int[] on = {0, one, two, three, four, five};
        for (int k = 1; k <= RINDS; k++) {
            if (!isOnRind(on[k])) {
                return NONE;
            }
        }
        // Sets of four share three RINDS, and three tell all: two sets that agree make all five agree.
        if (agreeWithout(on, 4) && agreeWithout(on, 5)) {
            return 0;
        }
        for (int k = 1; k <= RINDS; k++) {
            if (agreeWithout(on, k)) {
                return k;
            }
        }
        return NONE;
    }

    public int reply(int house, int weight) {
        if (!within(weight, 0, 9)) {
            return refused(BAD_NUMBER);
        }
        if (!isHouse(house)) {
            return refused(NO_SUCH);
        }
        int was = alps.meadow.weights[house];
        alps.meadow.weights[house] = weight;
        return answered(was);
    }

    public int trips(int dairy, int what) {
        if (!isDairy(dairy) || !within(what, 0, 2)) {
            return NONE;
        }
        if (!carrier.plansFrom(alps.meadow.dairyCells[dairy])) {
            return NONE;
        }
        if (what == 2) {
            return carrier.firstTrip();
        }
        return what == 0 ? carrier.fewest() : carrier.leastWay();
    }

    public int summer(int seed, int n) {
        if (!within(seed, 0, 1_000_000) || !within(n, 1, 30)) {
            return refused(BAD_NUMBER);
        }
        Arrays.fill(summerEnds, 0);
        judge.renew();
        ride.mendAll();
        drawing = seed;
        int arrived = 0;
        for (int i = 0; i < n && alps.wheels > 0 && alps.meadow.dairies > 0; i++) {
            rollByDraws();
            summerEnds[ride.cell]++;
            if (ride.why == AT_HOUSE) {
                arrived++;
            }
        }
        return answered(arrived);
    }

    public int drawn(int end) {
        return isEnd(end) ? summerEnds[end] : NONE;
    }

    public int image(int k) {
        if (!within(k, 0, 1)) {
            return refused(BAD_NUMBER);
        }
        images[k].become(alps);
        kept[k] = true;
        return answered(0);
    }

    public int back(int k) {
        if (!within(k, 0, 1)) {
            return refused(BAD_NUMBER);
        }
        if (!kept[k]) {
            return refused(NO_SUCH);
        }
        alps.become(images[k]);
        sends.size = 0;
        return answered(0);
    }

    public int count(int what) {
        if (within(what, 10, 14)) {
            return refusals[what - 10];
        }
        if (within(what, 16, 19)) {
            return alps.terms[what - 16];
        }
        switch (what) {
            case 0: return alps.meadow.houses;
            case 1: return alps.meadow.dairies;
            case 2: return alps.wheels;
            case 3: return alps.goneWheels();
            case 4: return alps.letters;
            case 5: return alps.lawCount;
            case 6: return alps.traces;
            case 7: return alps.meadow.fencedCells();
            case 8: return sends.size;
            case 9: return tapeLength;
            case 15: return alps.inForce;
            default: return NONE;
        }
    }

    public int status() {
        return status;
    }

    private int refused(int by) {
        status = by;
        refusals[by >= CANNOT ? -by - 1 : -by - 2]++;
        return by;
    }

    private int answered(int answer) {
        status = 0;
        return answer;
    }

    private void putFour(int number) {
        for (int shift = 24; shift >= 0 && tapeLength < TAPE_BYTES; shift -= 8) {
            tape[tapeLength] = number >> shift & 255;
            tapeLength++;
        }
    }

    private boolean rollsOnPaper(int cell, int direction, int speed, int wheel) {
        if (!isCell(cell) || !within(direction, 0, 3) || !within(speed, 0, FASTEST) || !isWheel(wheel)) {
            return false;
        }
        judge.renew();
        ride.mendAll();
        ride.start(cell, direction, speed, wheel);
        ride.rollOut();
        return true;
    }

    private void rollByDraws() {
        int wheel = drawOf(alps.wheels);
        int dairy = drawOf(alps.meadow.dairies);
        int direction = drawOf(4);
        int speed = drawOf(9) + 1;
        ride.start(alps.meadow.dairyCells[dairy], direction, speed, wheel);
        for (int i = 0; i < MOST_STEPS && ride.why == ROLLS_ON; i++) {
            boolean slipping = drawOf(10) < alps.terms[SLIP];
            ride.look();
            ride.go(slipping && ride.second != NONE ? ride.second : ride.first);
        }
    }

    private int drawOf(int m) {
        drawing = (int) ((drawing * 1103L + 12345L) % 1_000_003L);
        return m > 0 ? drawing % m : 0;
    }

    private boolean isHouse(int house) {
        return within(house, 0, alps.meadow.houses - 1);
    }

    private boolean isDairy(int dairy) {
        return within(dairy, 0, alps.meadow.dairies - 1);
    }

    private boolean isWheel(int wheel) {
        return within(wheel, 0, alps.wheels - 1);
    }

    private static boolean within(int value, int least, int most) {
        return value >= least && value <= most;
    }

    private static boolean isCell(int cell) {
        return within(cell, 0, CELLS - 1);
    }

    private static boolean isEnd(int end) {
        return isCell(end) || within(end, VALLEY, END_NUMBERS - 1);
    }

    private static boolean isRind(int k) {
        return within(k, 1, RINDS);
    }

    private static boolean isOnRind(int value) {
        return within(value, 0, PRIME - 1);
    }

    private static int wheelOf(int cast) {
        return cast / 160;
    }

    private static int dairyOf(int cast) {
        return cast / 40 % 4;
    }

    private static int directionOf(int cast) {
        return cast / 10 % 4;
    }

    private static int speedOf(int cast) {
        return cast % 10;
    }

    /** The CELL beside one, or the VALLEY's number, or NONE. */
    private static int beside(int cell, int direction) {
        int x = cell % ACROSS;
        int y = cell / ACROSS;
        switch (direction) {
            case 0: return y > 0 ? cell - ACROSS : NONE;
            case 1: return x < ACROSS - 1 ? cell + 1 : NONE;
            case 2: return y < LAST_ROW ? cell + ACROSS : VALLEY + x;
            default: return x > 0 ? cell - 1 : NONE;
        }
    }

    /** Whether the RINDS but one are from one SECRET, a and b. */
    private static boolean agreeWithout(int[] on, int left) {
        int k = left == 1 ? 2 : 1;
        int m = left <= 2 ? 3 : 2;
        int n = left <= 3 ? 4 : 3;
        int last = left <= 4 ? 5 : 4;
        return curveAt(last, k, on[k], m, on[m], n, on[n]) == on[last];
    }

    /** What would be on a RIND (0: the SECRET) by three unlike ones. */
    private static int curveAt(int rind, int k, int onK, int m, int onM, int n, int onN) {
        int sum = onK * weightAt(rind, k, m, n) + onM * weightAt(rind, m, k, n) + onN * weightAt(rind, n, k, m);
        return sum % PRIME;
    }

    private static int weightAt(int rind, int own, int other, int another) {
        int above = Math.floorMod((rind - other) * (rind - another), PRIME);
        int below = Math.floorMod((own - other) * (own - another), PRIME);
        return above * inverse(below) % PRIME;
    }

    private static int inverse(int number) {
        for (int i = 1; i < PRIME; i++) {
            if (number * i % PRIME == 1) {
                return i;
            }
        }
        return 0;
    }

    /** The land with what stands on it. */
    private static final class Meadow {
        final int[] heights = new int[CELLS];
        final int[] fences = new int[CELLS];
        final int[] houseAt = new int[CELLS];
        final int[] houseCells = new int[MOST_HOUSES];
        final int[] hungerAt = new int[CELLS];
        final int[] uneaten = new int[MOST_HOUSES];
        final int[] eaten = new int[MOST_HOUSES];
        final int[] weights = new int[MOST_HOUSES];
        final int[] dairyCells = new int[MOST_DAIRIES];
        int houses = 0;
        int dairies = 0;

        Meadow() {
            for (int cell = 0; cell < CELLS; cell++) {
                heights[cell] = 90 - 10 * (cell / ACROSS);
                houseAt[cell] = NONE;
                hungerAt[cell] = NONE;
            }
        }

        int build(int cell, int hunger) {
            int house = houses;
            houseAt[cell] = house;
            houseCells[house] = cell;
            hungerAt[cell] = hunger;
            uneaten[house] = 0;
            eaten[house] = 0;
            weights[house] = 0;
            houses++;
            return house;
        }

        int firstDairyAt(int cell) {
            for (int i = 0; i < dairies; i++) {
                if (dairyCells[i] == cell) {
                    return i;
                }
            }
            return NONE;
        }

        int heightOf(int end) {
            return end < CELLS ? heights[end] : 0;
        }

        int fencedCells() {
            int found = 0;
            for (int cell = 0; cell < CELLS; cell++) {
                if (fences[cell] > 0) {
                    found++;
                }
            }
            return found;
        }

        void become(Meadow other) {
            System.arraycopy(other.heights, 0, heights, 0, CELLS);
            System.arraycopy(other.fences, 0, fences, 0, CELLS);
            System.arraycopy(other.houseAt, 0, houseAt, 0, CELLS);
            System.arraycopy(other.houseCells, 0, houseCells, 0, MOST_HOUSES);
            System.arraycopy(other.hungerAt, 0, hungerAt, 0, CELLS);
            System.arraycopy(other.uneaten, 0, uneaten, 0, MOST_HOUSES);
            System.arraycopy(other.eaten, 0, eaten, 0, MOST_HOUSES);
            System.arraycopy(other.weights, 0, weights, 0, MOST_HOUSES);
            System.arraycopy(other.dairyCells, 0, dairyCells, 0, MOST_DAIRIES);
            houses = other.houses;
            dairies = other.dairies;
        }
    }

    /** All that an IMAGE keeps. */
    private static final class Alps {
        final Meadow meadow = new Meadow();
        final int[] sizes = new int[MOST_WHEELS];
        final int[] ripes = new int[MOST_WHEELS];
        final int[] gone = new int[MOST_WHEELS];
        final int[] letterHouses = new int[MOST_LETTERS];
        final int[] letterWorths = new int[MOST_LETTERS];
        final int[] terms = {0, 3, 10, 2};
        final Text[] laws = new Text[MOST_LAWS];
        final int[] traceCells = new int[MOST_TRACES];
        final int[] traceBroken = new int[MOST_TRACES];
        int wheels = 0;
        int letters = 0;
        int lawCount = 0;
        int inForce = NONE;
        int traces = 0;

        int goneWheels() {
            int found = 0;
            for (int i = 0; i < wheels; i++) {
                found += gone[i];
            }
            return found;
        }

        void become(Alps other) {
            meadow.become(other.meadow);
            System.arraycopy(other.sizes, 0, sizes, 0, MOST_WHEELS);
            System.arraycopy(other.ripes, 0, ripes, 0, MOST_WHEELS);
            System.arraycopy(other.gone, 0, gone, 0, MOST_WHEELS);
            System.arraycopy(other.letterHouses, 0, letterHouses, 0, MOST_LETTERS);
            System.arraycopy(other.letterWorths, 0, letterWorths, 0, MOST_LETTERS);
            System.arraycopy(other.terms, 0, terms, 0, terms.length);
            System.arraycopy(other.traceCells, 0, traceCells, 0, MOST_TRACES);
            System.arraycopy(other.traceBroken, 0, traceBroken, 0, MOST_TRACES);
            for (int i = 0; i < MOST_LAWS; i++) {
                laws[i] = other.laws[i];
            }
            wheels = other.wheels;
            letters = other.letters;
            lawCount = other.lawCount;
            inForce = other.inForce;
            traces = other.traces;
        }
    }

    /** A LAW or ORDERS as read: for each CLAUSE or ORDER its kind, where its SUMS and its TEST begin. */
    private static final class Text {
        final int[] kinds;
        final int[] sums;
        final int[] tests;
        final int[] times;
        final int[] code;
        int size = 0;
        int length = 0;

        Text(int items, int instructions) {
            kinds = new int[items];
            sums = new int[items * SUMS];
            tests = new int[items];
            times = new int[items];
            code = new int[instructions];
        }

        void clear() {
            size = 0;
            length = 0;
        }

        void add(int kind) {
            if (size < kinds.length) {
                kinds[size] = kind;
                tests[size] = NONE;
                times[size] = 1;
                size++;
            }
        }

        void emit(int op, int with) {
            if (length < code.length) {
                code[length] = op | with << 4;
                length++;
            }
        }

        /** The "or" or "and" at a place asks no further than to here, if it is settled. */
        void settle(int place) {
            if (within(place, 0, length - 1)) {
                code[place] |= length << 4;
            }
        }

        Text trimmed() {
            Text copy = new Text(size, length);
            System.arraycopy(kinds, 0, copy.kinds, 0, size);
            System.arraycopy(sums, 0, copy.sums, 0, size * SUMS);
            System.arraycopy(tests, 0, copy.tests, 0, size);
            System.arraycopy(times, 0, copy.times, 0, size);
            System.arraycopy(code, 0, copy.code, 0, length);
            copy.size = size;
            copy.length = length;
            return copy;
        }

        boolean tells(int kind) {
            for (int i = 0; i < size; i++) {
                if (kinds[i] == kind) {
                    return true;
                }
            }
            return false;
        }

        /** What a SUM makes, whether a TEST is so (1, 0), or BROKEN. */
        long reckon(int from, int[] words, int[] stack) {
            int top = 0;
            for (int i = from < 0 ? length : from; i < length; i++) {
                int op = code[i] & 15;
                int with = code[i] >> 4;
                if (top < OP_NEEDS[op] || top >= stack.length) {
                    return BROKEN;
                }
                long left = top > 1 ? stack[top - 2] : 0;
                long right = top > 0 ? stack[top - 1] : 0;
                long made;
                switch (op) {
                    case OP_STOP: return right;
                    case OP_OR:
                    case OP_AND:
                        if (right != (op == OP_OR ? 1 : 0)) {
                            top--;
                        } else if (with > i) {
                            i = with - 1;
                        }
                        continue;
                    case OP_NUMBER: made = with; break;
                    case OP_WORD: made = with < words.length ? words[with] : BROKEN; break;
                    case OP_NOT: made = 1 - right; break;
                    case OP_ADD: made = left + right; break;
                    case OP_LESS_BY: made = left - right; break;
                    case OP_TIMES: made = left * right; break;
                    case OP_DIVIDE: made = right == 0 ? BROKEN : left / right; break;
                    case OP_REST: made = right == 0 ? BROKEN : left % right; break;
                    case OP_BELOW: made = left < right ? 1 : 0; break;
                    case OP_ABOVE: made = left > right ? 1 : 0; break;
                    default: made = left == right ? 1 : 0; break;
                }
                if (made > BILLION || made < -BILLION) {
                    return BROKEN;
                }
                top += 1 - OP_NEEDS[op];
                stack[top - 1] = (int) made;
            }
            return BROKEN;
        }
    }

    /** Reads TEXTS of both languages into a draft. */
    private static final class Reader {
        final Text draft = new Text(MOST_ITEMS, CODE_ROOM);
        private final int[] starts = new int[TAPE_BYTES + 1];
        private final int[] sorts = new int[TAPE_BYTES + 1];
        private final int[] numbers = new int[TAPE_BYTES + 1];
        private int tokens = 0;
        private int token = 0;
        private int parts = 0;
        private int brackets = 0;
        private boolean ofLaws = true;

        /** Reads a TEXT: NONE, or where its FAULT is. */
        int parse(int[] bytes, int length, boolean asLaw) {
            cutUp(bytes, length);
            draft.clear();
            ofLaws = asLaw;
            token = 0;
            parts = 0;
            brackets = 0;
            boolean more = true;
            for (int i = 0; i < MOST_ITEMS && more; i++) {
                if (!(ofLaws ? readClause() : readOrder())) {
                    return starts[token];
                }
                more = sorts[token] == ';';
                if (more) {
                    token++;
                }
            }
            return !more && sorts[token] == TEXT_END ? NONE : starts[token];
        }

        private void cutUp(int[] bytes, int length) {
            tokens = 0;
            int from = 0;
            for (int i = 0; i < length; i = Math.max(i + 1, from)) {
                from = i + 1;
                if (bytes[i] != ' ') {
                    int kind = letterOrDigit(bytes[i]);
                    while (kind != STRANGE && from < length && letterOrDigit(bytes[from]) == kind) {
                        from++;
                    }
                    starts[tokens] = i;
                    numbers[tokens] = kind == NUMBER ? numberIn(bytes, i, from) : 0;
                    sorts[tokens] = kind == WORD ? wordIn(bytes, i, from) : kind == NUMBER ? NUMBER : bytes[i];
                    tokens++;
                }
            }
            starts[tokens] = length;
            sorts[tokens] = TEXT_END;
        }

        private static int letterOrDigit(int sign) {
            if (within(sign, 'a', 'z')) {
                return WORD;
            }
            return within(sign, '0', '9') ? NUMBER : STRANGE;
        }

        /** A number; above all that can stand in a TEXT, it is only told to be so. */
        private static int numberIn(int[] bytes, int from, int to) {
            int number = 0;
            for (int i = from; i < to; i++) {
                number = Math.min(number * 10 + bytes[i] - '0', HIGHEST_NUMBER + 1);
            }
            return number;
        }

        private static int wordIn(int[] bytes, int from, int to) {
            int sort = WORD;
            int begin = 0;
            for (int i = 0; i < WORDS.length(); i++) {
                if (WORDS.charAt(i) == ' ') {
                    if (i - begin == to - from && standsAt(begin, bytes, from, to)) {
                        return sort;
                    }
                    sort++;
                    begin = i + 1;
                }
            }
            return STRANGE;
        }

        private static boolean standsAt(int begin, int[] bytes, int from, int to) {
            for (int i = from; i < to; i++) {
                if (WORDS.charAt(begin + i - from) != bytes[i]) {
                    return false;
                }
            }
            return true;
        }

        private boolean takes(int sort) {
            if (sorts[token] != sort) {
                return false;
            }
            token++;
            return true;
        }

        private boolean readClause() {
            int kind = sorts[token] - FIRST_CLAUSE;
            if (!within(kind, SLOWS, EATS)) {
                return false;
            }
            token++;
            draft.add(kind);
            return (kind > COSTS || readSums(1, 0)) && readIf();
        }

        private boolean readOrder() {
            int kind = sorts[token] - FIRST_ORDER;
            if (!within(kind, SENDS, 2)) {
                return false;
            }
            token++;
            draft.add(kind);
            if (kind == SENDS && !readSums(4, FROM) || kind == MENDS && !readSums(2, BY)) {
                return false;
            }
            return readTimes() && readIf();
        }

        /** SUMS with words between that follow one another in WORDS. */
        private boolean readSums(int many, int firstBetween) {
            for (int i = 0; i < many; i++) {
                if (i > 0 && !takes(firstBetween + i - 1)) {
                    return false;
                }
                draft.sums[(draft.size - 1) * SUMS + i] = draft.length;
                if (!readSum(0)) {
                    return false;
                }
                draft.emit(OP_STOP, 0);
            }
            return true;
        }

        private boolean readTimes() {
            if (!takes(TIMES)) {
                return true;
            }
            if (sorts[token] != NUMBER || !within(numbers[token], 1, MOST_TIMES)) {
                return false;
            }
            draft.times[draft.size - 1] = numbers[token];
            token++;
            return true;
        }

        private boolean readIf() {
            if (!takes(IF)) {
                return true;
            }
            draft.tests[draft.size - 1] = draft.length;
            if (!readTest(0)) {
                return false;
            }
            draft.emit(OP_STOP, 0);
            return true;
        }

        /** Level 0 is a TEST of BOTHS, level 1 a BOTH of PLAINS; the brackets keep it from going deep. */
        private boolean readTest(int level) {
            int between = level == 0 ? OR : AND;
            boolean more = true;
            int place = NONE;
            for (int i = 0; i <= TAPE_BYTES && more; i++) {
                if (!(level == 0 ? readTest(1) : readPlain())) {
                    return false;
                }
                draft.settle(place);
                more = takes(between);
                if (more) {
                    place = draft.length;
                    draft.emit(level == 0 ? OP_OR : OP_AND, 0);
                }
            }
            return true;
        }

        private boolean readPlain() {
            boolean turned = false;
            for (int i = 0; i <= TAPE_BYTES && takes(NOT); i++) {
                turned = !turned;
            }
            if (sorts[token] == '(') {
                if (!opens() || !readTest(0) || !closes(')')) {
                    return false;
                }
            } else {
                if (!readSum(0)) {
                    return false;
                }
                int op = comparing(sorts[token]);
                if (op == OP_STOP) {
                    return false;
                }
                token++;
                if (!readSum(0)) {
                    return false;
                }
                draft.emit(op, 0);
            }
            if (turned) {
                draft.emit(OP_NOT, 0);
            }
            return true;
        }

        /** Level 0 is a SUM of TERMS, level 1 a TERM of PARTS. */
        private boolean readSum(int level) {
            int op = OP_STOP;
            boolean more = true;
            for (int i = 0; i <= TAPE_BYTES && more; i++) {
                if (!(level == 0 ? readSum(1) : readPart())) {
                    return false;
                }
                if (op != OP_STOP) {
                    draft.emit(op, 0);
                }
                op = level == 0 ? adding(sorts[token]) : multiplying(sorts[token]);
                more = op != OP_STOP;
                if (more) {
                    token++;
                }
            }
            return true;
        }

        private static int comparing(int sign) {
            return sign == '<' ? OP_BELOW : sign == '>' ? OP_ABOVE : sign == '=' ? OP_ALIKE : OP_STOP;
        }

        private static int adding(int sign) {
            return sign == '+' ? OP_ADD : sign == '-' ? OP_LESS_BY : OP_STOP;
        }

        private static int multiplying(int sign) {
            if (sign == '*') {
                return OP_TIMES;
            }
            return sign == '/' ? OP_DIVIDE : sign == '%' ? OP_REST : OP_STOP;
        }

        private boolean readPart() {
            int sort = sorts[token];
            if (sort == '[') {
                return opens() && readSum(0) && closes(']');
            }
            int firstWord = ofLaws ? LAW_PARTS : ORDER_PARTS;
            int lastWord = ofLaws ? ORDER_PARTS : BEHIND_WORDS - 1;
            if (parts >= MOST_PARTS) {
                return false;
            }
            if (sort == NUMBER && numbers[token] <= HIGHEST_NUMBER) {
                draft.emit(OP_NUMBER, numbers[token]);
            } else if (within(sort, firstWord, lastWord)) {
                draft.emit(OP_WORD, sort - firstWord);
            } else {
                return false;
            }
            parts++;
            token++;
            return true;
        }

        private boolean opens() {
            if (brackets >= MOST_BRACKETS) {
                return false;
            }
            brackets++;
            token++;
            return true;
        }

        private boolean closes(int sign) {
            brackets--;
            return takes(sign);
        }
    }

    /** Asks the LAW in FORCE. What it tells of a step is kept until renew(), as many rolls ask the same. */
    private static final class Judge {
        private final Alps alps;
        private final int[] words = new int[9];
        private final int[] stack = new int[STACK_ROOM];
        private final int[] keptSlows = new int[MOST_WHEELS * CELLS * SPEEDS];
        private final int[] keptShuts = new int[MOST_WHEELS * CELLS * SPEEDS];
        private Text law = null;
        private int epoch = 0;
        private boolean slowsTold = false;
        private boolean shutsTold = false;

        Judge(Alps alps) {
            this.alps = alps;
        }

        /** Looks at the Alps anew: what was told before may hold no longer. */
        void renew() {
            epoch++;
            law = within(alps.inForce, 0, alps.lawCount - 1) ? alps.laws[alps.inForce] : null;
            slowsTold = law != null && law.tells(SLOWS);
            shutsTold = law != null && law.tells(SHUTS);
        }

        int slowed(int cell, int wheel, int speed) {
            if (!slowsTold) {
                return 1;
            }
            int place = (wheel * CELLS + cell) * SPEEDS + speed;
            if (keptSlows[place] >> 7 != epoch) {
                keptSlows[place] = epoch << 7 | told(SLOWS, cell, wheel, speed);
            }
            return keptSlows[place] & 127;
        }

        boolean isShut(int cell, int wheel, int speed) {
            if (!shutsTold) {
                return false;
            }
            int place = (wheel * CELLS + cell) * SPEEDS + speed;
            if (keptShuts[place] >> 7 != epoch) {
                keptShuts[place] = epoch << 7 | told(SHUTS, cell, wheel, speed);
            }
            return (keptShuts[place] & 127) == 1;
        }

        /** What the last CLAUSE of a kind that HOLDS tells; for "shuts" and "eats" 1, if one HOLDS. */
        int told(int kind, int cell, int wheel, int speed) {
            int most = kind == COSTS ? 999 : 99;
            if (law != null) {
                see(cell, wheel, speed);
                for (int i = law.size - 1; i >= 0; i--) {
                    if (law.kinds[i] != kind || law.tests[i] != NONE && law.reckon(law.tests[i], words, stack) != 1) {
                        continue;
                    }
                    long sum = kind <= COSTS ? law.reckon(law.sums[i * SUMS], words, stack) : 1;
                    if (sum != BROKEN) {
                        return sum < 0 ? 0 : sum > most ? most : (int) sum;
                    }
                }
            }
            return kind <= COSTS ? 1 : 0;
        }

        private void see(int cell, int wheel, int speed) {
            words[0] = cell % ACROSS;
            words[1] = cell / ACROSS;
            words[2] = alps.meadow.heights[cell];
            words[3] = alps.meadow.fences[cell];
            words[4] = speed;
            words[5] = alps.sizes[wheel];
            words[6] = alps.ripes[wheel];
            words[7] = alps.meadow.hungerAt[cell];
            words[8] = alps.terms[DAY];
        }
    }

    /** A WHEEL that rolls. */
    private static final class Ride {
        final int[] cellsPassed = new int[MOST_STEPS + 1];
        final int[] cellsBroken = new int[MOST_STEPS];
        private final Alps alps;
        private final Judge judge;
        int cell = 0;
        int speed = 0;
        int steps = 0;
        int breaks = 0;
        int why = STAYS;
        int first = NONE;
        int second = NONE;
        // A WALL is not told, so it stands here and not in the Meadow, where a LAW's "fence" is asked.
        int walled = NONE;
        private int direction = 0;
        private int wheel = 0;
        private long brokenBelow64 = 0;
        private long brokenAbove = 0;

        Ride(Alps alps, Judge judge) {
            this.alps = alps;
            this.judge = judge;
        }

        void mendAll() {
            brokenBelow64 = 0;
            brokenAbove = 0;
        }

        /** FENCES broken stay so until mendAll(). */
        void start(int fromCell, int toward, int with, int ofWheel) {
            cell = fromCell;
            direction = toward;
            speed = with;
            wheel = ofWheel;
            steps = 0;
            breaks = 0;
            why = ROLLS_ON;
            cellsPassed[0] = cell;
        }

        void startCast(int cast) {
            mendAll();
            start(alps.meadow.dairyCells[dairyOf(cast)], directionOf(cast), speedOf(cast), wheelOf(cast));
        }

        /** Goes on from where another is; its way to there is not taken over. */
        void branchFrom(Ride other) {
            cell = other.cell;
            direction = other.direction;
            speed = other.speed;
            wheel = other.wheel;
            steps = other.steps;
            breaks = other.breaks;
            why = other.why;
            brokenBelow64 = other.brokenBelow64;
            brokenAbove = other.brokenAbove;
        }

        void rollOut() {
            for (int i = 0; i < MOST_STEPS && why == ROLLS_ON; i++) {
                look();
                go(first);
            }
        }

        /** Finds the DIRECTIONS of the most PULL and of the next. */
        void look() {
            int most = 0;
            int next = 0;
            first = NONE;
            second = NONE;
            for (int way = 0; way < 4; way++) {
                int there = beside(cell, way);
                if (there == NONE || there < CELLS && judge.isShut(there, wheel, speed)) {
                    continue;
                }
                int pull = fallTo(there) + (way == direction ? alps.terms[KEEP] : 0);
                if (first == NONE || pull > most) {
                    second = first;
                    next = most;
                    first = way;
                    most = pull;
                } else if (second == NONE || pull > next) {
                    second = way;
                    next = pull;
                }
            }
        }

        /** Makes a STEP in a DIRECTION, or stays. */
        void go(int way) {
            int there = way == NONE ? NONE : beside(cell, way);
            if (there == NONE) {
                why = STAYS;
                return;
            }
            int faster = Math.min(FASTEST, speed + fallTo(there) - judge.slowed(cell, wheel, speed));
            if (faster < 1) {
                why = STAYS;
                return;
            }
            int strong = strengthAt(there);
            if (faster * alps.sizes[wheel] < 10 * strong) {
                why = FENCED;
                return;
            }
            if (strong > 0) {
                breakAt(there);
                faster = Math.max(1, faster - strong);
            }
            direction = way;
            speed = faster;
            arriveAt(there);
        }

        boolean hasBroken(int at) {
            return at < 64 ? (brokenBelow64 >> at & 1) == 1 : (brokenAbove >> at - 64 & 1) == 1;
        }

        boolean isEaten() {
            return why == AT_HOUSE && judge.told(EATS, cell, wheel, speed) == 1;
        }

        private int fallTo(int there) {
            return alps.meadow.heights[cell] - alps.meadow.heightOf(there);
        }

        /** How strong the FENCE is that it must break to come there. */
        private int strengthAt(int there) {
            if (there >= CELLS || hasBroken(there)) {
                return 0;
            }
            return there == walled ? WALL : alps.meadow.fences[there];
        }

        private void breakAt(int at) {
            if (at < 64) {
                brokenBelow64 |= 1L << at;
            } else {
                brokenAbove |= 1L << at - 64;
            }
            if (breaks < cellsBroken.length) {
                cellsBroken[breaks] = at;
                breaks++;
            }
        }

        private void arriveAt(int there) {
            cell = there;
            steps++;
            if (steps < cellsPassed.length) {
                cellsPassed[steps] = there;
            }
            if (there >= VALLEY) {
                why = IN_VALLEY;
            } else if (alps.meadow.houseAt[there] != NONE) {
                why = AT_HOUSE;
            } else if (steps >= MOST_STEPS) {
                why = TIRED;
            }
        }
    }

    /** Sends WHEELS for good and remembers what was ahead of it. */
    private static final class Sends {
        // Twice what can be undone: ORDERS send 8 at most, so what they push out is still here if they fail.
        private static final int ROOM = 2 * MOST_UNDONE;
        private final Alps alps;
        private final Ride ride;
        private final int[][] fences = new int[ROOM][CELLS];
        private final int[][] gone = new int[ROOM][MOST_WHEELS];
        private final int[][] uneaten = new int[ROOM][MOST_HOUSES];
        private final int[][] eaten = new int[ROOM][MOST_HOUSES];
        private final int[] sent = new int[ROOM];
        int size = 0;
        int top = 0;

        Sends(Alps alps, Ride ride) {
            this.alps = alps;
            this.ride = ride;
        }

        /** Whether it came to a HOUSE and was not EATEN. */
        boolean launch(int cast) {
            remember(cast);
            ride.startCast(cast);
            ride.rollOut();
            boolean isEaten = ride.isEaten();
            boolean arrived = ride.why == AT_HOUSE && !isEaten;
            if (arrived) {
                alps.meadow.uneaten[alps.meadow.houseAt[ride.cell]]++;
            } else if (isEaten) {
                alps.meadow.eaten[alps.meadow.houseAt[ride.cell]]++;
            }
            for (int i = 0; i < ride.breaks; i++) {
                alps.meadow.fences[ride.cellsBroken[i]] = 0;
            }
            alps.gone[wheelOf(cast)] = 1;
            return arrived;
        }

        int endOfLatest() {
            return ride.cell;
        }

        int takeBack() {
            top = (top + ROOM - 1) % ROOM;
            size--;
            System.arraycopy(fences[top], 0, alps.meadow.fences, 0, CELLS);
            System.arraycopy(gone[top], 0, alps.gone, 0, MOST_WHEELS);
            System.arraycopy(uneaten[top], 0, alps.meadow.uneaten, 0, MOST_HOUSES);
            System.arraycopy(eaten[top], 0, alps.meadow.eaten, 0, MOST_HOUSES);
            return sent[top];
        }

        private void remember(int cast) {
            System.arraycopy(alps.meadow.fences, 0, fences[top], 0, CELLS);
            System.arraycopy(alps.gone, 0, gone[top], 0, MOST_WHEELS);
            System.arraycopy(alps.meadow.uneaten, 0, uneaten[top], 0, MOST_HOUSES);
            System.arraycopy(alps.meadow.eaten, 0, eaten[top], 0, MOST_HOUSES);
            sent[top] = cast;
            top = (top + 1) % ROOM;
            size = Math.min(size + 1, MOST_UNDONE);
        }
    }

    /** Runs ORDERS. */
    private static final class Clerk {
        private final Alps alps;
        private final Sends sends;
        private final Alps ahead = new Alps();
        private final int[] words = new int[6];
        private final int[] stack = new int[STACK_ROOM];
        private final int[] sums = new int[SUMS];
        private int aheadTop = 0;
        private int aheadSize = 0;
        private int arrived = 0;
        private int lastEnd = NONE;
        int done = 0;

        Clerk(Alps alps, Sends sends) {
            this.alps = alps;
            this.sends = sends;
        }

        void begin() {
            ahead.become(alps);
            aheadTop = sends.top;
            aheadSize = sends.size;
            arrived = 0;
            lastEnd = NONE;
            done = 0;
        }

        void takeBack() {
            alps.become(ahead);
            sends.top = aheadTop;
            sends.size = aheadSize;
        }

        /** Runs an ORDER once, if it is to be run; false, if it can't be. */
        boolean tries(Text text, int item) {
            see();
            if (text.tests[item] != NONE && text.reckon(text.tests[item], words, stack) != 1) {
                return true;
            }
            int kind = text.kinds[item];
            if (!reckonSums(text, item) || !canRun(kind)) {
                return false;
            }
            if (kind == SENDS) {
                arrived += sends.launch(castToSend()) ? 1 : 0;
                lastEnd = sends.endOfLatest();
            } else if (kind == MENDS) {
                alps.meadow.fences[sums[0]] = sums[1];
            } else {
                alps.terms[DAY]++;
            }
            done++;
            return true;
        }

        private void see() {
            words[0] = alps.terms[DAY];
            words[1] = alps.wheels - alps.goneWheels();
            words[2] = alps.meadow.fencedCells();
            words[3] = done;
            words[4] = arrived;
            words[5] = lastEnd;
        }

        private boolean reckonSums(Text text, int item) {
            int many = text.kinds[item] == SENDS ? 4 : text.kinds[item] == MENDS ? 2 : 0;
            for (int i = 0; i < many; i++) {
                long sum = text.reckon(text.sums[item * SUMS + i], words, stack);
                if (sum == BROKEN) {
                    return false;
                }
                sums[i] = (int) sum;
            }
            return true;
        }

        private boolean canRun(int kind) {
            if (kind == SENDS) {
                return within(sums[0], 0, alps.wheels - 1) && within(sums[1], 0, alps.meadow.dairies - 1)
                        && within(sums[2], 0, 3) && within(sums[3], 1, 9) && alps.gone[sums[0]] == 0;
            }
            if (kind == MENDS) {
                return isCell(sums[0]) && within(sums[1], 0, 9);
            }
            return alps.terms[DAY] < TERM_MOST[DAY];
        }

        private int castToSend() {
            return sums[0] * 160 + sums[1] * 40 + sums[2] * 10 + sums[3];
        }
    }

    /** What all THROWS do: AIMS, ROWS of SLIPS, the POST, TRACES, WALLS. */
    private static final class Casts {
        private static final int WORTH_ABOVE_COSTS = 10_000;
        private final Alps alps;
        private final Judge judge;
        // One for the THROW, one more for each SLIP that it can make.
        private final Ride[] rides = new Ride[3];
        final int[] rowEnds = new int[END_NUMBERS];
        int rows = 0;
        int found = 0;
        int best = NONE;
        int bestCost = NONE;
        int bestSteps = NONE;
        int bestHits = 0;
        int bestRows = 0;
        private final int[][] cheapest = new int[MOST_WHEELS][MOST_HOUSES];
        private final int[][] bestFrom = new int[MOST_LETTERS + 1][1 << MOST_WHEELS];
        final int[] letterWheels = new int[MOST_LETTERS];
        int postWorth = 0;
        int postCosts = 0;
        int postGoing = 0;

        Casts(Alps alps, Judge judge) {
            this.alps = alps;
            this.judge = judge;
            for (int i = 0; i < rides.length; i++) {
                rides[i] = new Ride(alps, judge);
            }
        }

        /** Whether a THROW is told so whose WHEEL is not GONE. */
        boolean canBe(int cast) {
            return within(cast, 0, ALL_CASTS - 1) && speedOf(cast) > 0 && wheelOf(cast) < alps.wheels
                    && dairyOf(cast) < alps.meadow.dairies && alps.gone[wheelOf(cast)] == 0;
        }

        private int priceOf(int cast) {
            return judge.told(COSTS, alps.meadow.dairyCells[dairyOf(cast)], wheelOf(cast), speedOf(cast));
        }

        void countRows(int cast, int k) {
            Arrays.fill(rowEnds, 0);
            rows = 0;
            rides[0].startCast(cast);
            followRows(0, k);
        }

        /** Follows a ride to its END, and from each STEP in which it can slip those that slip there. */
        private void followRows(int depth, int slipsLeft) {
            Ride ride = rides[depth];
            for (int i = 0; i < MOST_STEPS && ride.why == ROLLS_ON; i++) {
                ride.look();
                if (slipsLeft > 0 && depth + 1 < rides.length && ride.second != NONE) {
                    rides[depth + 1].branchFrom(ride);
                    rides[depth + 1].go(ride.second);
                    followRows(depth + 1, slipsLeft - 1);
                }
                ride.go(ride.first);
            }
            rowEnds[ride.cell]++;
            rows++;
        }

        int unlikeEnds() {
            int unlike = 0;
            for (int i = 0; i < END_NUMBERS; i++) {
                if (rowEnds[i] > 0) {
                    unlike++;
                }
            }
            return unlike;
        }

        /** The END of most ROWS, or how many they are. */
        int commonEnd(boolean howMany) {
            int common = 0;
            for (int i = 1; i < END_NUMBERS; i++) {
                if (rowEnds[i] > rowEnds[common]) {
                    common = i;
                }
            }
            return howMany ? rowEnds[common] : common;
        }

        void aimAt(int house) {
            found = 0;
            best = NONE;
            bestCost = NONE;
            bestSteps = NONE;
            for (int cast = 0; cast < ALL_CASTS; cast++) {
                if (canBe(cast) && comesUneaten(cast) == house) {
                    int cost = priceOf(cast);
                    found++;
                    if (best == NONE || cost < bestCost) {
                        best = cast;
                        bestCost = cost;
                        bestSteps = rides[0].steps;
                    }
                }
            }
        }

        /** The HOUSE to which a THROW comes uneaten, or NONE. */
        private int comesUneaten(int cast) {
            Ride ride = rides[0];
            ride.startCast(cast);
            ride.rollOut();
            return ride.why == AT_HOUSE && !ride.isEaten() ? alps.meadow.houseAt[ride.cell] : NONE;
        }

        void findSurest(int cell, int k) {
            best = NONE;
            bestHits = 0;
            bestRows = 1;
            for (int cast = 0; cast < ALL_CASTS; cast++) {
                if (canBe(cast)) {
                    countRows(cast, k);
                    if (rowEnds[cell] * bestRows > bestHits * rows) {
                        best = cast;
                        bestHits = rowEnds[cell];
                        bestRows = rows;
                    }
                }
            }
        }

        /** What the cheapest THROW of each WHEEL that comes to each HOUSE uneaten COSTS. */
        void findCheapest() {
            for (int wheel = 0; wheel < MOST_WHEELS; wheel++) {
                Arrays.fill(cheapest[wheel], NONE);
            }
            for (int cast = 0; cast < ALL_CASTS && alps.letters > 0; cast++) {
                int house = canBe(cast) ? comesUneaten(cast) : NONE;
                if (house != NONE) {
                    int[] prices = cheapest[wheelOf(cast)];
                    int price = priceOf(cast);
                    if (prices[house] == NONE || price < prices[house]) {
                        prices[house] = price;
                    }
                }
            }
        }

        /** Finds the POST, behind findCheapest(). */
        void deliver() {
            int sets = 1 << alps.wheels;
            for (int used = 0; used < sets; used++) {
                bestFrom[alps.letters][used] = 0;
            }
            for (int letter = alps.letters - 1; letter >= 0; letter--) {
                for (int used = 0; used < sets; used++) {
                    bestFrom[letter][used] = bestOf(letter, used);
                }
            }
            pickWheels();
        }

        private int bestOf(int letter, int used) {
            int most = bestFrom[letter + 1][used];
            for (int wheel = 0; wheel < alps.wheels; wheel++) {
                if (canCarry(letter, wheel, used)) {
                    most = Math.max(most, gainWith(letter, wheel, used));
                }
            }
            return most;
        }

        private boolean canCarry(int letter, int wheel, int used) {
            return (used >> wheel & 1) == 0 && cheapest[wheel][alps.letterHouses[letter]] != NONE;
        }

        /** WORTH less COSTS of a LETTER by a WHEEL and of the best with the LETTERS behind it. */
        private int gainWith(int letter, int wheel, int used) {
            int own = alps.letterWorths[letter] * WORTH_ABOVE_COSTS - cheapest[wheel][alps.letterHouses[letter]];
            return own + bestFrom[letter + 1][used | 1 << wheel];
        }

        private void pickWheels() {
            int used = 0;
            postWorth = 0;
            postCosts = 0;
            postGoing = 0;
            for (int letter = 0; letter < alps.letters; letter++) {
                int picked = NONE;
                for (int wheel = 0; wheel < alps.wheels && picked == NONE; wheel++) {
                    if (canCarry(letter, wheel, used) && gainWith(letter, wheel, used) == bestFrom[letter][used]) {
                        picked = wheel;
                    }
                }
                letterWheels[letter] = picked;
                if (picked != NONE) {
                    used |= 1 << picked;
                    postWorth += alps.letterWorths[letter];
                    postCosts += cheapest[picked][alps.letterHouses[letter]];
                    postGoing++;
                }
            }
        }

        boolean breaksAsTraced(int cast) {
            Ride ride = rides[0];
            ride.startCast(cast);
            ride.rollOut();
            for (int i = 0; i < alps.traces; i++) {
                if (ride.hasBroken(alps.traceCells[i]) != (alps.traceBroken[i] == 1)) {
                    return false;
                }
            }
            return true;
        }

        /** Whether a THROW ends at a HOUSE, if a WALL stands on a CELL. */
        boolean walledEndsAt(int cast, int cell, int house) {
            Ride ride = rides[0];
            ride.startCast(cast);
            ride.walled = cell;
            ride.rollOut();
            ride.walled = NONE;
            return ride.why == AT_HOUSE && alps.meadow.houseAt[ride.cell] == house;
        }
    }

    /** Carries REPLIES up to a DAIRY. */
    private static final class Carrier {
        private static final int SETS = 1 << MOST_HOUSES;
        private static final int TRIP_ABOVE_WAY = 10_000;
        private static final int TOO_FAR = 1_000_000;
        private final Alps alps;
        private final int[] loads = new int[SETS];
        private final int[] ways = new int[SETS];
        private final int[] plans = new int[SETS];
        private final int[][] tours = new int[SETS][MOST_HOUSES];
        private int all = 0;

        Carrier(Alps alps) {
            this.alps = alps;
        }

        /** Plans the TRIPS to a CELL; false, if a HOUSE has more than can be carried. */
        boolean plansFrom(int home) {
            all = 0;
            for (int house = 0; house < alps.meadow.houses; house++) {
                if (alps.meadow.weights[house] > 0) {
                    all |= 1 << house;
                }
            }
            plans[0] = 0;
            for (int set = 1; set <= all; set++) {
                if ((set & ~all) == 0) {
                    findWay(set, home);
                }
            }
            for (int set = 1; set <= all; set++) {
                if ((set & ~all) == 0) {
                    plans[set] = planOf(set);
                }
            }
            return plans[all] < TOO_FAR;
        }

        int fewest() {
            return plans[all] / TRIP_ABOVE_WAY;
        }

        int leastWay() {
            return plans[all] % TRIP_ABOVE_WAY;
        }

        /** The lowest set of HOUSES that can be the lowest one's TRIP. */
        int firstTrip() {
            for (int trip = 1; trip <= all; trip++) {
                if (canBeFirst(trip, all) && with(trip, all) == plans[all]) {
                    return trip;
                }
            }
            return 0;
        }

        /** The load of a set of HOUSES, and the least WAY through them all and home. */
        private void findWay(int set, int home) {
            loads[set] = 0;
            ways[set] = TOO_FAR;
            for (int last = 0; last < MOST_HOUSES; last++) {
                if ((set >> last & 1) == 1) {
                    loads[set] += alps.meadow.weights[last];
                    tours[set][last] = tourTo(last, set & ~(1 << last), home);
                    ways[set] = Math.min(ways[set], tours[set][last] + between(alps.meadow.houseCells[last], home));
                }
            }
        }

        private int tourTo(int last, int before, int home) {
            int here = alps.meadow.houseCells[last];
            if (before == 0) {
                return between(home, here);
            }
            int least = TOO_FAR;
            for (int house = 0; house < MOST_HOUSES; house++) {
                if ((before >> house & 1) == 1) {
                    least = Math.min(least, tours[before][house] + between(alps.meadow.houseCells[house], here));
                }
            }
            return least;
        }

        private int planOf(int set) {
            int least = TOO_FAR;
            for (int trip = set; trip > 0; trip = trip - 1 & set) {
                if (canBeFirst(trip, set)) {
                    least = Math.min(least, with(trip, set));
                }
            }
            return least;
        }

        private boolean canBeFirst(int trip, int set) {
            return (trip & ~set) == 0 && (trip & set & -set) != 0 && loads[trip] <= alps.terms[LOAD];
        }

        /** TRIPS and WAY together of a TRIP and the plan for the others. */
        private int with(int trip, int set) {
            return TRIP_ABOVE_WAY + ways[trip] + plans[set & ~trip];
        }

        private static int between(int cell, int other) {
            return Math.abs(cell % ACROSS - other % ACROSS) + Math.abs(cell / ACROSS - other / ACROSS);
        }
    }
}
