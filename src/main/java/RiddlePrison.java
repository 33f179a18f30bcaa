import java.util.Arrays;

/** A prison whose doors are shut with questions; DOC.md has its promises by number. */
public final class RiddlePrison {
    public static final int BAD = -1, NOT = -2, FULL = -3, NONE = -4, NULL = -11, CAST = -12, INDEX = -13, SIZE = -14;

    private static final int CELLS = 8;
    private static final int DOORS = 10;
    private static final int MEN = 4;
    private static final int SORTS = 4;
    private static final int KINDS = 5;
    private static final int WITS = 10;
    private static final int HARDEST = 19;
    private static final int TAPE = 90;
    private static final int SHEETS = 4;
    private static final int LANES = 4;
    private static final int ITEMS = 24;
    private static final int LONGEST_DRIFT = 40;
    private static final int LONGEST_HUNT = 3;
    private static final int LONGEST_WANDER = 4;
    private static final int MOST_PAIRS = 8;

    private final Prison now = new Prison();
    private final History history = new History();
    private final Prison imaged = new Prison();
    private final History imagedHistory = new History();
    private boolean hasImage;
    private final Prison draft = new Prison();
    private final Tape tape = new Tape();
    private final Foresight foresight = new Foresight(now);
    private final Man trial = new Man();
    private final Sheet[] sheets = new Sheet[SHEETS];

    public RiddlePrison() {
        for (int k = 0; k < SHEETS; k++) {
            sheets[k] = new Sheet();
        }
    }

    // ---- 1 doors, men

    public int door(int cell, int other, int sort, int hard) {
        if (!isCell(cell) || !isCell(other) || cell == other || !isQuestion(sort, hard)) {
            return BAD;
        }
        if (now.doorCount >= DOORS) {
            return FULL;
        }
        history.forget();
        return now.addDoor(cell, other, sort, hard);
    }

    public int man(int kind, int wit, int sort, int cell) {
        if (!isBelow(kind, KINDS) || !isBelow(wit, WITS) || !isBelow(sort, SORTS) || !isCell(cell)) {
            return BAD;
        }
        if (now.manCount >= MEN) {
            return FULL;
        }
        history.forget();
        return now.addMan(kind, wit, sort, cell);
    }

    public int of(int door, int what) {
        if (!isDoor(door)) {
            return BAD;
        }
        Door told = now.doors[door];
        switch (what) {
            case 0: return told.first;
            case 1: return told.other;
            case 2: return told.sort;
            case 3: return told.hard;
            case 4: return now.menWhoKnow(door);
            case 5: return now.menWhoPass(door);
            default: return BAD;
        }
    }

    public int at(int man, int what) {
        if (!isMan(man)) {
            return BAD;
        }
        Man told = now.men[man];
        switch (what) {
            case 0: return told.kind;
            case 1: return told.wit;
            case 2: return told.own;
            case 3: return told.cell;
            case 4: return told.known;
            case 5: return told.failed;
            case 6: return now.doorsOpenTo(told);
            default: return BAD;
        }
    }

    public int power(int man, int door) {
        if (!isMan(man) || !isDoor(door)) {
            return BAD;
        }
        Man told = now.men[man];
        return now.doors[door].isAt(told.cell) ? told.powerAt(now.doors[door]) : NOT;
    }

    public int type(int letter) {
        if (letter < 32 || letter > 126) {
            return BAD;
        }
        return tape.add((char) letter) ? tape.size : FULL;
    }

    public int read() {
        int answer = tape.parse(draft);
        tape.size = 0;
        if (answer < 0) {
            return answer;
        }
        draft.draw = now.draw;
        now.become(draft);
        history.forget();
        return answer;
    }

    public int count(int what) {
        switch (what) {
            case 0: return now.doorCount;
            case 1: return now.manCount;
            case 2: return now.hardTogether();
            case 3: return now.failedTogether();
            case 4: return now.cellsWithMen();
            case 5: return history.size;
            default: return BAD;
        }
    }

    // ---- what is done

    public int attempt(int man, int door) {
        if (!isMan(man) || !isDoor(door)) {
            return BAD;
        }
        Man told = now.men[man];
        if (!now.doors[door].isAt(told.cell)) {
            return NOT;
        }
        history.remember(now);
        now.letTry(told, door);
        return told.cell;
    }

    public int whisper(int man, int door) {
        if (!isMan(man) || !isDoor(door)) {
            return BAD;
        }
        Man told = now.men[man];
        if (told.knows(door)) {
            return NOT;
        }
        history.remember(now);
        told.known |= 1 << door;
        return told.known;
    }

    public int set(int door, int sort, int hard) {
        if (!isDoor(door) || !isQuestion(sort, hard)) {
            return BAD;
        }
        history.remember(now);
        Door told = now.doors[door];
        int was = told.hard;
        told.sort = sort;
        told.hard = hard;
        now.letForget(door);
        return was;
    }

    public int study(int man) {
        if (!isMan(man)) {
            return BAD;
        }
        Man told = now.men[man];
        if (told.wit >= WITS - 1) {
            return NOT;
        }
        history.remember(now);
        told.wit++;
        return told.wit;
    }

    public int drift(int n) {
        if (n < 1 || n > LONGEST_DRIFT) {
            return BAD;
        }
        for (int k = 0; k < n; k++) {
            history.remember(now);
            now.driftOnce();
        }
        return now.failedTogether();
    }

    public int undo() {
        return history.takeBack(now) ? history.size : NONE;
    }

    public int seed(int v) {
        if (v < 0) {
            return BAD;
        }
        int was = now.draw;
        now.draw = v;
        return was;
    }

    // ---- 2 foretold

    public int way(int man, int cell, int k) {
        if (!isMan(man) || !isCell(cell) || k < -1) {
            return BAD;
        }
        foresight.follow(now.men[man]);
        return k == -1 ? foresight.far[cell] : foresight.doorOfWay(cell, k);
    }

    public int ways(int man, int cell) {
        if (!isMan(man) || !isCell(cell)) {
            return BAD;
        }
        foresight.follow(now.men[man]);
        return foresight.rows[cell];
    }

    public int reach(int man) {
        if (!isMan(man)) {
            return BAD;
        }
        foresight.follow(now.men[man]);
        return foresight.reached();
    }

    public int round(int man, int cells) {
        if (!isMan(man) || !isBelow(cells, 1 << CELLS)) {
            return BAD;
        }
        foresight.follow(now.men[man]);
        return foresight.shortestRound(cells);
    }

    public int cut(int man, int cell, int what) {
        if (!isMan(man) || !isCell(cell) || !isBelow(what, 2)) {
            return BAD;
        }
        foresight.follow(now.men[man]);
        int shut = foresight.leastCut(cell);
        return shut < 0 || what == 1 ? shut : Integer.bitCount(shut);
    }

    public int bridges(int man, int cell) {
        if (!isMan(man) || !isCell(cell)) {
            return BAD;
        }
        foresight.follow(now.men[man]);
        return foresight.bridgesTo(cell);
    }

    public int wit(int man, int cell) {
        if (!isMan(man) || !isCell(cell)) {
            return BAD;
        }
        Man told = now.men[man];
        for (int enough = 0; enough < WITS; enough++) {
            foresight.followAs(told, enough, told.own);
            if (foresight.far[cell] >= 0) {
                return enough;
            }
        }
        return NONE;
    }

    public int lesson(int man, int what) {
        if (!isMan(man) || !isBelow(what, 2)) {
            return BAD;
        }
        Man told = now.men[man];
        int best = 0;
        int most = 0;
        for (int sort = 0; sort < SORTS; sort++) {
            foresight.followAs(told, told.wit, sort);
            int cells = Integer.bitCount(foresight.reached());
            if (cells > most) {
                best = sort;
                most = cells;
            }
        }
        return what == 0 ? best : most;
    }

    public int meet(int man, int other, int what) {
        if (!isMan(man) || !isMan(other) || man == other || !isBelow(what, 2)) {
            return BAD;
        }
        foresight.follow(now.men[other]);
        foresight.setAsideDistances();
        foresight.follow(now.men[man]);
        int cell = foresight.meetingCell();
        return cell < 0 || what == 0 ? cell : foresight.longerWay(cell);
    }

    public int hunt(int man, int cell, int n) {
        if (!isMan(man) || !isCell(cell) || !isBelow(n, LONGEST_HUNT + 1)) {
            return BAD;
        }
        foresight.follow(now.men[man]);
        return foresight.huntedSteps(cell, n);
    }

    public long wander(int man, int cell, int n, int what) {
        if (!isMan(man) || !isCell(cell) || !isBelow(n, LONGEST_WANDER + 1) || !isBelow(what, 2)) {
            return BAD;
        }
        foresight.follow(now.men[man]);
        long whole = foresight.spreadOdds(n);
        long above = foresight.odds[cell];
        long common = commonDivisor(whole, above);
        if (common <= 0) {
            return BAD;
        }
        return what == 0 ? above / common : whole / common;
    }

    public int image() {
        imaged.become(now);
        imagedHistory.become(history);
        hasImage = true;
        return 1;
    }

    public int restore() {
        if (!hasImage) {
            return NONE;
        }
        now.become(imaged);
        history.become(imagedHistory);
        return 1;
    }

    // ---- 3 sheets 0 .. 3

    public int heard(int man, int sheet, int lane, int i, int n, int what) {
        if (!isMan(man) || !isSheetLane(sheet, lane) || n < 1 || n > MOST_PAIRS || !isBelow(what, 2)) {
            return BAD;
        }
        Sheet told = sheets[sheet];
        int fault = told.faultOf(lane, i, 2 * n);
        if (fault < 0) {
            return fault;
        }
        if (!tellsPairs(told, i, n)) {
            return NOT;
        }
        int fitting = 0;
        int guesses = what == 0 ? KINDS : WITS;
        for (int guess = 0; guess < guesses; guess++) {
            trial.become(now.men[man]);
            if (what == 0) {
                trial.kind = guess;
            } else {
                trial.wit = guess;
            }
            if (trialGoesAs(told, i, n)) {
                fitting |= 1 << guess;
            }
        }
        return fitting;
    }

    public int film(int man, int n, int sheet, int lane, int i) {
        if (!isMan(man) || n < 1 || n > CELLS || !isSheetLane(sheet, lane)) {
            return BAD;
        }
        Sheet told = sheets[sheet];
        int fault = told.faultOf(lane, i, n);
        if (fault < 0) {
            return fault;
        }
        foresight.follow(now.men[man]);
        for (int cell = 0; cell < n; cell++) {
            told.put(i + cell, foresight.far[cell]);
        }
        return n;
    }

    public int sheet(int sheet, int lane, int n) {
        if (!isSheetLane(sheet, lane) || n > ITEMS) {
            return BAD;
        }
        if (n < 0) {
            return SIZE;
        }
        sheets[sheet].begin(lane, n);
        return n;
    }

    public int drop(int sheet) {
        if (!isBelow(sheet, SHEETS)) {
            return BAD;
        }
        Sheet told = sheets[sheet];
        if (!told.holds) {
            return NULL;
        }
        told.holds = false;
        return told.size;
    }

    public int item(int sheet, int lane, int i, long v) {
        if (!isSheetLane(sheet, lane)) {
            return BAD;
        }
        Sheet told = sheets[sheet];
        int fault = told.faultOf(lane, i, 1);
        if (fault < 0) {
            return fault;
        }
        told.put(i, v);
        return 1;
    }

    public int copy(int from, int i, int to, int j, int n) {
        if (!isBelow(from, SHEETS) || !isBelow(to, SHEETS)) {
            return BAD;
        }
        Sheet source = sheets[from];
        Sheet target = sheets[to];
        if (!source.holds || !target.holds) {
            return NULL;
        }
        int fault = target.faultOf(source.lane, j, n);
        if (fault == 0) {
            fault = source.faultOf(source.lane, i, n);
        }
        if (fault < 0) {
            return fault;
        }
        System.arraycopy(source.items, i, target.items, j, n);
        return n;
    }

    private static boolean isBelow(int v, int bound) {
        return v >= 0 && v < bound;
    }

    private static boolean isCell(int cell) {
        return isBelow(cell, CELLS);
    }

    private static boolean isQuestion(int sort, int hard) {
        return isBelow(sort, SORTS) && hard >= 1 && hard <= HARDEST;
    }

    private static boolean isSheetLane(int sheet, int lane) {
        return isBelow(sheet, SHEETS) && isBelow(lane, LANES);
    }

    private boolean isDoor(int door) {
        return isBelow(door, now.doorCount);
    }

    private boolean isMan(int man) {
        return isBelow(man, now.manCount);
    }

    private boolean tellsPairs(Sheet told, int i, int n) {
        for (int k = 0; k < n; k++) {
            long door = told.items[i + 2 * k];
            long passed = told.items[i + 2 * k + 1];
            if (door < 0 || door >= now.doorCount || passed < 0 || passed > 1) {
                return false;
            }
        }
        return true;
    }

    private boolean trialGoesAs(Sheet told, int i, int n) {
        for (int k = 0; k < n; k++) {
            int door = (int) told.items[i + 2 * k];
            boolean passed = now.letTry(trial, door);
            if (passed != (told.items[i + 2 * k + 1] == 1)) {
                return false;
            }
        }
        return true;
    }

    private static long commonDivisor(long a, long b) {
        long larger = a;
        long rest = b;
        // Euclid needs fewer than 100 steps for any two longs.
        for (int k = 0; k < 100 && rest != 0; k++) {
            long left = larger % rest;
            larger = rest;
            rest = left;
        }
        return larger;
    }

    private static final class Door {
        private int first;
        private int other;
        private int sort;
        private int hard;

        void become(Door model) {
            first = model.first;
            other = model.other;
            sort = model.sort;
            hard = model.hard;
        }

        boolean isAt(int cell) {
            return first == cell || other == cell;
        }

        int beyond(int cell) {
            return cell == first ? other : first;
        }
    }

    private static final class Man {
        private static final int SCHOLAR = 1;
        private static final int WARDER = 2;
        private static final int PUNSTER = 3;
        private static final int CHAPLAIN = 4;
        private static final int SUMS = 0;
        private static final int MOST_FAILED = 99;
        private static final int MOST_PATIENCE = 9;

        private int kind;
        private int wit;
        private int own;
        private int cell;
        private int known;
        private int failed;

        void become(Man model) {
            kind = model.kind;
            wit = model.wit;
            own = model.own;
            cell = model.cell;
            known = model.known;
            failed = model.failed;
        }

        int powerAt(Door door) {
            int learned = door.sort == own ? wit + 3 : wit;
            int watchful = cell % 2 == 1 ? wit + 2 : wit;
            switch (kind) {
                case SCHOLAR: return learned;
                case WARDER: return watchful;
                case PUNSTER: return door.sort == SUMS ? 0 : learned;
                case CHAPLAIN: return watchful + Math.min(failed, MOST_PATIENCE);
                default: return wit;
            }
        }

        boolean knows(int door) {
            return (known >> door & 1) == 1;
        }

        boolean passes(Door door, int number) {
            return knows(number) || powerAt(door) >= door.hard;
        }

        void failOnceMore() {
            failed = Math.min(failed + 1, MOST_FAILED);
        }
    }

    private static final class Prison {
        private final Door[] doors = new Door[DOORS];
        private final Man[] men = new Man[MEN];
        private int doorCount;
        private int manCount;
        private int draw = 1;

        Prison() {
            for (int k = 0; k < DOORS; k++) {
                doors[k] = new Door();
            }
            for (int k = 0; k < MEN; k++) {
                men[k] = new Man();
            }
        }

        void become(Prison model) {
            doorCount = model.doorCount;
            manCount = model.manCount;
            draw = model.draw;
            for (int k = 0; k < doorCount; k++) {
                doors[k].become(model.doors[k]);
            }
            for (int k = 0; k < manCount; k++) {
                men[k].become(model.men[k]);
            }
        }

        int addDoor(int cell, int other, int sort, int hard) {
            if (doorCount >= DOORS) {
                return FULL;
            }
            Door fresh = doors[doorCount];
            fresh.first = cell;
            fresh.other = other;
            fresh.sort = sort;
            fresh.hard = hard;
            doorCount++;
            return doorCount - 1;
        }

        int addMan(int kind, int wit, int sort, int cell) {
            if (manCount >= MEN) {
                return FULL;
            }
            Man fresh = men[manCount];
            fresh.kind = kind;
            fresh.wit = wit;
            fresh.own = sort;
            fresh.cell = cell;
            fresh.known = 0;
            fresh.failed = 0;
            manCount++;
            return manCount - 1;
        }

        boolean isOpenTo(Man who, int door) {
            return doors[door].isAt(who.cell) && who.passes(doors[door], door);
        }

        int doorsOpenTo(Man who) {
            int open = 0;
            for (int d = 0; d < doorCount; d++) {
                if (isOpenTo(who, d)) {
                    open |= 1 << d;
                }
            }
            return open;
        }

        int menWhoPass(int door) {
            int passing = 0;
            for (int m = 0; m < manCount; m++) {
                if (isOpenTo(men[m], door)) {
                    passing |= 1 << m;
                }
            }
            return passing;
        }

        int menWhoKnow(int door) {
            int knowing = 0;
            for (int m = 0; m < manCount; m++) {
                if (men[m].knows(door)) {
                    knowing |= 1 << m;
                }
            }
            return knowing;
        }

        int hardTogether() {
            int sum = 0;
            for (int d = 0; d < doorCount; d++) {
                sum += doors[d].hard;
            }
            return sum;
        }

        int failedTogether() {
            int sum = 0;
            for (int m = 0; m < manCount; m++) {
                sum += men[m].failed;
            }
            return sum;
        }

        int cellsWithMen() {
            int cells = 0;
            for (int m = 0; m < manCount; m++) {
                cells |= 1 << men[m].cell;
            }
            return cells;
        }

        /** Whether he passed; at a door of another cell nothing is done, not even a failure. */
        boolean letTry(Man who, int door) {
            Door tried = doors[door];
            if (!tried.isAt(who.cell)) {
                return false;
            }
            if (!who.passes(tried, door)) {
                who.failOnceMore();
                return false;
            }
            who.cell = tried.beyond(who.cell);
            return true;
        }

        void letForget(int door) {
            for (int m = 0; m < manCount; m++) {
                men[m].known &= ~(1 << door);
            }
        }

        void driftOnce() {
            draw = draw * 1103515245 + 12345 & 0x7fffffff;
            if (manCount > 0 && doorCount > 0) {
                letTry(men[draw / 65536 % manCount], draw / 128 % doorCount);
            }
        }
    }

    /** A new door or man makes it forget, so whole prisons can be kept: their counts never differ. */
    private static final class History {
        private static final int DEPTH = 8;

        private final Prison[] earlier = new Prison[DEPTH];
        private int size;

        History() {
            for (int k = 0; k < DEPTH; k++) {
                earlier[k] = new Prison();
            }
        }

        void become(History model) {
            size = model.size;
            for (int k = 0; k < size; k++) {
                earlier[k].become(model.earlier[k]);
            }
        }

        void forget() {
            size = 0;
        }

        void remember(Prison now) {
            if (size >= DEPTH) {
                loseOldest();
            }
            earlier[size].become(now);
            size++;
        }

        private void loseOldest() {
            Prison oldest = earlier[0];
            for (int k = 1; k < DEPTH; k++) {
                earlier[k - 1] = earlier[k];
            }
            earlier[DEPTH - 1] = oldest;
            size = DEPTH - 1;
        }

        boolean takeBack(Prison now) {
            if (size <= 0) {
                return false;
            }
            size--;
            now.become(earlier[size]);
            return true;
        }
    }

    /** What one man could do from now on, while nobody fails or comes to know more. */
    private static final class Foresight {
        private static final int MODULUS = 1000003;
        private static final int SETS = 1 << CELLS;
        private static final int STATES = CELLS * SETS;
        // Divisible by every number of doors that a cell can have, so that odds stay whole.
        private static final int SHARES = 2520;

        private final Prison prison;
        private final Man who = new Man();
        private int start;
        private final int[] open = new int[CELLS];
        private final int[] far = new int[CELLS];
        private final int[] rows = new int[CELLS];
        private final int[] farAside = new int[CELLS];
        private final int[] depth = new int[STATES];
        private final long[] odds = new long[CELLS];
        private final long[] oddsAhead = new long[CELLS];

        Foresight(Prison prison) {
            this.prison = prison;
        }

        void follow(Man man) {
            followAs(man, man.wit, man.own);
        }

        void followAs(Man man, int wit, int own) {
            who.become(man);
            who.wit = wit;
            who.own = own;
            start = man.cell;
            for (int cell = 0; cell < CELLS; cell++) {
                who.cell = cell;
                open[cell] = prison.doorsOpenTo(who);
            }
            spread(start, 0);
        }

        private boolean isOpen(int cell, int door, int shut) {
            return ((open[cell] & ~shut) >> door & 1) == 1;
        }

        /** Finds how far each cell is from one, and by how many rows of doors as short. */
        private void spread(int from, int shut) {
            Arrays.fill(far, NONE);
            Arrays.fill(rows, 0);
            far[from] = 0;
            rows[from] = 1;
            for (int steps = 0; steps < CELLS; steps++) {
                for (int cell = 0; cell < CELLS; cell++) {
                    if (far[cell] == steps) {
                        spreadOn(cell, shut);
                    }
                }
            }
        }

        private void spreadOn(int cell, int shut) {
            int then = far[cell] + 1;
            for (int d = 0; d < prison.doorCount; d++) {
                if (!isOpen(cell, d, shut)) {
                    continue;
                }
                int next = prison.doors[d].beyond(cell);
                if (far[next] < 0) {
                    far[next] = then;
                }
                if (far[next] == then) {
                    rows[next] = (rows[next] + rows[cell]) % MODULUS;
                }
            }
        }

        private int distance(int from, int to, int shut) {
            spread(from, shut);
            return far[to];
        }

        int reached() {
            int cells = 0;
            for (int cell = 0; cell < CELLS; cell++) {
                if (far[cell] >= 0) {
                    cells |= 1 << cell;
                }
            }
            return cells;
        }

        int doorOfWay(int cell, int k) {
            int here = start;
            int length = far[cell];
            for (int done = 0; done < length; done++) {
                int door = firstDoorOfWay(here, cell, length - done);
                if (door < 0 || done == k) {
                    return door;
                }
                here = prison.doors[door].beyond(here);
            }
            return NONE;
        }

        private int firstDoorOfWay(int here, int cell, int left) {
            for (int d = 0; d < prison.doorCount; d++) {
                if (isOpen(here, d, 0) && distance(prison.doors[d].beyond(here), cell, 0) == left - 1) {
                    return d;
                }
            }
            return NONE;
        }

        /** Searches by where he is and which of the told cells he has been in. */
        int shortestRound(int cells) {
            Arrays.fill(depth, NONE);
            depth[stateOf(start, 0, cells)] = 0;
            boolean goesOn = true;
            for (int steps = 0; steps < STATES && goesOn; steps++) {
                goesOn = false;
                for (int state = 0; state < STATES; state++) {
                    if (depth[state] != steps) {
                        continue;
                    }
                    if (state % SETS == cells) {
                        return steps;
                    }
                    stepOn(state, cells);
                    goesOn = true;
                }
            }
            return NONE;
        }

        private static int stateOf(int cell, int been, int cells) {
            return cell * SETS + (been | 1 << cell & cells);
        }

        private void stepOn(int state, int cells) {
            int cell = state / SETS;
            for (int d = 0; d < prison.doorCount; d++) {
                if (!isOpen(cell, d, 0)) {
                    continue;
                }
                int then = stateOf(prison.doors[d].beyond(cell), state % SETS, cells);
                if (depth[then] < 0) {
                    depth[then] = depth[state] + 1;
                }
            }
        }

        int leastCut(int cell) {
            if (cell == start) {
                return NONE;
            }
            for (int size = 0; size <= prison.doorCount; size++) {
                for (int shut = 0; shut < 1 << prison.doorCount; shut++) {
                    if (Integer.bitCount(shut) == size && distance(start, cell, shut) < 0) {
                        return shut;
                    }
                }
            }
            return NONE;
        }

        int bridgesTo(int cell) {
            int bridging = 0;
            if (far[cell] < 0) {
                return bridging;
            }
            for (int d = 0; d < prison.doorCount; d++) {
                if (distance(start, cell, 1 << d) < 0) {
                    bridging |= 1 << d;
                }
            }
            return bridging;
        }

        void setAsideDistances() {
            System.arraycopy(far, 0, farAside, 0, CELLS);
        }

        /** How far the cell is for the one of both men who has the longer way to it. */
        int longerWay(int cell) {
            return far[cell] < 0 || farAside[cell] < 0 ? NONE : Math.max(far[cell], farAside[cell]);
        }

        int meetingCell() {
            int best = NONE;
            int shortest = CELLS;
            for (int cell = 0; cell < CELLS; cell++) {
                int longer = longerWay(cell);
                if (longer >= 0 && longer < shortest) {
                    best = cell;
                    shortest = longer;
                }
            }
            return best;
        }

        int huntedSteps(int cell, int most) {
            for (int steps = 0; steps <= most; steps++) {
                if (getsThere(start, cell, 0, steps)) {
                    return steps;
                }
            }
            return NONE;
        }

        private boolean getsThere(int here, int cell, int shut, int steps) {
            if (here == cell) {
                return true;
            }
            if (steps <= 0) {
                return false;
            }
            for (int d = 0; d < prison.doorCount; d++) {
                if (isOpen(here, d, shut) && getsThereStill(prison.doors[d].beyond(here), cell, shut, steps - 1)) {
                    return true;
                }
            }
            return false;
        }

        /** Whether he gets there whichever door is shut behind the step that he has just done. */
        private boolean getsThereStill(int here, int cell, int shut, int steps) {
            if (here == cell) {
                return true;
            }
            if (steps <= 0) {
                return false;
            }
            for (int d = 0; d < prison.doorCount; d++) {
                if (!getsThere(here, cell, shut | 1 << d, steps)) {
                    return false;
                }
            }
            return true;
        }

        /** Fills odds with whole numbers of shares; the answer is how many shares there are in all. */
        long spreadOdds(int times) {
            Arrays.fill(odds, 0L);
            odds[start] = 1;
            long whole = 1;
            for (int k = 0; k < times; k++) {
                Arrays.fill(oddsAhead, 0L);
                for (int cell = 0; cell < CELLS; cell++) {
                    shareOut(cell);
                }
                System.arraycopy(oddsAhead, 0, odds, 0, CELLS);
                whole *= SHARES;
            }
            return whole;
        }

        private void shareOut(int cell) {
            int choices = Integer.bitCount(open[cell]);
            if (choices <= 0) {
                oddsAhead[cell] += odds[cell] * SHARES;
                return;
            }
            long share = odds[cell] * (SHARES / choices);
            for (int d = 0; d < prison.doorCount; d++) {
                if (isOpen(cell, d, 0)) {
                    oddsAhead[prison.doors[d].beyond(cell)] += share;
                }
            }
        }
    }

    private static final class Tape {
        private static final int FIRST_FAULT = -20;
        private static final String CELL_DIGITS = "01234567";
        private static final String DIGITS = "0123456789";
        private static final String SORT_SIGNS = "+?=&";
        private static final String KIND_LETTERS = "pswuc";

        private final char[] letters = new char[TAPE];
        private int size;
        private int place;
        private boolean faulty;

        boolean add(char letter) {
            if (size >= TAPE) {
                return false;
            }
            letters[size] = letter;
            size++;
            return true;
        }

        /** How many doors the text has, or its fault. */
        int parse(Prison into) {
            place = 0;
            faulty = false;
            into.doorCount = 0;
            into.manCount = 0;
            parseDoors(into);
            if (goesOnWith(';')) {
                parseMen(into);
            }
            skipBlanks();
            if (place < size) {
                failAt(place);
            }
            return faulty ? FIRST_FAULT - place : into.doorCount;
        }

        private void parseDoors(Prison into) {
            boolean more = true;
            for (int k = 1; k <= DOORS && more; k++) {
                parseDoor(into);
                more = k < DOORS && goesOnWith(',');
            }
        }

        private void parseDoor(Prison into) {
            int first = pick(CELL_DIGITS);
            int other = pick(CELL_DIGITS);
            if (other == first) {
                failAt(place - 1);
            }
            int sort = pick(SORT_SIGNS);
            int hard = pickHard();
            into.addDoor(first, other, sort, hard);
        }

        private int pickHard() {
            int hard = pick(DIGITS);
            int from = place - 1;
            if (!faulty && place < size && DIGITS.indexOf(letters[place]) >= 0) {
                hard = hard * 10 + DIGITS.indexOf(letters[place]);
                place++;
            }
            if (hard < 1 || hard > HARDEST) {
                failAt(from);
            }
            return hard;
        }

        private void parseMen(Prison into) {
            boolean more = true;
            for (int k = 1; k <= MEN && more; k++) {
                parseMan(into);
                more = k < MEN && goesOnWith(',');
            }
        }

        private void parseMan(Prison into) {
            int kind = pick(KIND_LETTERS);
            int wit = pick(DIGITS);
            int sort = pick(SORT_SIGNS);
            int cell = goesOnWith('@') ? pick(CELL_DIGITS) : 0;
            into.addMan(kind, wit, sort, cell);
        }

        /** Where the next letter stands among the signs; of a faulty text 0, as it comes to nothing. */
        private int pick(String signs) {
            skipBlanks();
            int found = !faulty && place < size ? signs.indexOf(letters[place]) : -1;
            if (found < 0) {
                failAt(place);
                return 0;
            }
            place++;
            return found;
        }

        private boolean goesOnWith(char letter) {
            skipBlanks();
            if (faulty || place >= size || letters[place] != letter) {
                return false;
            }
            place++;
            return true;
        }

        private void skipBlanks() {
            while (!faulty && place < size && letters[place] == ' ') {
                place++;
            }
        }

        /** The first fault stays where it is. */
        private void failAt(int where) {
            if (!faulty) {
                faulty = true;
                place = where;
            }
        }
    }

    /** All lanes share one row of longs, made once; what is put is cut to its lane's bits. */
    private static final class Sheet {
        private static final int BYTES = 0;
        private static final int SHORTS = 1;
        private static final int INTS = 2;

        private final long[] items = new long[ITEMS];
        private boolean holds;
        private int lane;
        private int size;

        void begin(int lane, int size) {
            this.lane = lane;
            this.size = size;
            holds = true;
            Arrays.fill(items, 0L);
        }

        /** What the machine would find with n items of a lane from i on; 0: nothing. */
        int faultOf(int lane, int i, int n) {
            if (!holds) {
                return NULL;
            }
            if (this.lane != lane) {
                return CAST;
            }
            return i < 0 || n < 0 || i > size - n ? INDEX : 0;
        }

        void put(int i, long v) {
            switch (lane) {
                case BYTES: items[i] = (byte) v; break;
                case SHORTS: items[i] = (short) v; break;
                case INTS: items[i] = (int) v; break;
                default: items[i] = v;
            }
        }
    }
}
