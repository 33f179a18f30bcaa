import java.math.BigInteger;
import java.util.ArrayDeque;
import java.util.ArrayList;
import java.util.Arrays;
import java.util.Deque;
import java.util.List;
import java.util.regex.Matcher;
import java.util.regex.Pattern;

/** The document said once more, by the slowest and plainest means, and by other ways than the class takes. */
final class Oracle {
    private static final int BAD = -1, NOT = -2, FULL = -3, NONE = -4, NULL = -11, CAST = -12, INDEX = -13, SIZE = -14;
    private static final int FAR = 1000;

    record Door(int a, int b, int sort, int hard) {
        boolean joins(int cell) {
            return a == cell || b == cell;
        }

        int from(int cell) {
            return a + b - cell;
        }
    }

    record Man(int kind, int wit, int own, int cell, int known, int failed) {
        int power(Door door) {
            int scholar = wit + (door.sort == own ? 3 : 0);
            int warder = wit + 2 * (cell & 1);
            int[] byKind = {wit, scholar, warder, door.sort == 0 ? 0 : scholar, warder + Math.min(9, failed)};
            return byKind[kind];
        }

        Man in(int other) {
            return new Man(kind, wit, own, other, known, failed);
        }

        Man having(int otherKind, int otherWit, int otherOwn) {
            return new Man(otherKind, otherWit, otherOwn, cell, known, failed);
        }

        Man knowing(int doors) {
            return new Man(kind, wit, own, cell, doors, failed);
        }
    }

    record State(List<Door> doors, List<Man> men, int draw, List<State> past) { }

    private State now = new State(List.of(), List.of(), 1, List.of());
    private State kept;
    private final StringBuilder tape = new StringBuilder();
    private final long[][] sheets = new long[4][];
    private final int[] lanes = new int[4];

    private Door d(int k) {
        return now.doors.get(k);
    }

    private Man m(int k) {
        return now.men.get(k);
    }

    private boolean noDoor(int k) {
        return k < 0 || k >= now.doors.size();
    }

    private boolean noMan(int k) {
        return k < 0 || k >= now.men.size();
    }

    private static boolean out(int v, int low, int high) {
        return v < low || v > high;
    }

    private static <T> List<T> with(List<T> list, int k, T v) {
        List<T> changed = new ArrayList<>(list);
        if (k == list.size()) {
            changed.add(v);
        } else {
            changed.set(k, v);
        }
        return changed;
    }

    private List<State> pastAndNow() {
        List<State> past = new ArrayList<>(now.past);
        past.add(now);
        return past.size() > 8 ? past.subList(past.size() - 8, past.size()) : past;
    }

    private void does(List<Door> doors, List<Man> men, int draw) {
        now = new State(doors, men, draw, pastAndNow());
    }

    private boolean can(Man who, int door) {
        Door it = d(door);
        return it.joins(who.cell) && ((who.known & 1 << door) != 0 || who.power(it) >= it.hard);
    }

    private Man tried(Man who, int door) {
        if (!d(door).joins(who.cell)) {
            return who;
        }
        return can(who, door) ? who.in(d(door).from(who.cell))
            : new Man(who.kind, who.wit, who.own, who.cell, who.known, Math.min(99, who.failed + 1));
    }

    int door(int cell, int other, int sort, int hard) {
        if (out(cell, 0, 7) || out(other, 0, 7) || cell == other || out(sort, 0, 3) || out(hard, 1, 19)) {
            return BAD;
        }
        int number = now.doors.size();
        if (number == 10) {
            return FULL;
        }
        now = new State(with(now.doors, number, new Door(cell, other, sort, hard)), now.men, now.draw, List.of());
        return number;
    }

    int man(int kind, int wit, int sort, int cell) {
        if (out(kind, 0, 4) || out(wit, 0, 9) || out(sort, 0, 3) || out(cell, 0, 7)) {
            return BAD;
        }
        int number = now.men.size();
        if (number == 4) {
            return FULL;
        }
        now = new State(now.doors, with(now.men, number, new Man(kind, wit, sort, cell, 0, 0)), now.draw, List.of());
        return number;
    }

    int of(int door, int what) {
        if (noDoor(door) || out(what, 0, 5)) {
            return BAD;
        }
        int know = 0;
        int pass = 0;
        for (int k = 0; k < now.men.size(); k++) {
            know += (m(k).known >> door & 1) << k;
            pass += can(m(k), door) ? 1 << k : 0;
        }
        return new int[] {d(door).a, d(door).b, d(door).sort, d(door).hard, know, pass}[what];
    }

    int at(int man, int what) {
        if (noMan(man) || out(what, 0, 6)) {
            return BAD;
        }
        int pass = 0;
        for (int k = 0; k < now.doors.size(); k++) {
            pass += can(m(man), k) ? 1 << k : 0;
        }
        Man it = m(man);
        return new int[] {it.kind, it.wit, it.own, it.cell, it.known, it.failed, pass}[what];
    }

    int power(int man, int door) {
        if (noMan(man) || noDoor(door)) {
            return BAD;
        }
        return d(door).joins(m(man).cell) ? m(man).power(d(door)) : NOT;
    }

    int type(int letter) {
        if (out(letter, 32, 126)) {
            return BAD;
        }
        if (tape.length() == 90) {
            return FULL;
        }
        tape.append((char) letter);
        return tape.length();
    }

    private static final String DOOR = "([0-7]) *(?!\\N)[0-7] *[+?=&] *[0-9][0-9]? *";
    private static final String MAN = "[pswuc] *[0-9] *[+?=&] *(@ *[0-7] *)?";

    private static Pattern grammar() {
        StringBuilder pattern = new StringBuilder(" *");
        for (int k = 1; k <= 10; k++) {
            pattern.append(k == 1 ? "" : "(?:, *").append(DOOR.replace("N", "" + k));
        }
        pattern.append(")?".repeat(9));
        return Pattern.compile(pattern + "(; *" + MAN + "(, *" + MAN + "){0,3})?");
    }

    private static final Pattern TEXT = grammar();
    private static final Pattern HARD = Pattern.compile("[+?=&] *([0-9][0-9]?)");

    /** The text's fault, or 0: the end of its longest beginning that some end makes a text. */
    private static int fault(String text) {
        int place = text.length();
        boolean fits = TEXT.matcher(text).matches();
        for (int k = 1; k <= text.length() && !fits; k++) {
            Matcher beginning = TEXT.matcher(text.substring(0, k));
            if (!beginning.matches() && !beginning.hitEnd()) {
                place = k - 1;
                break;
            }
        }
        Matcher hard = HARD.matcher(text.substring(0, place));
        while (hard.find()) {
            if (out(Integer.parseInt(hard.group(1)), 1, 19)) {
                return -20 - hard.start(1);
            }
        }
        return fits ? 0 : -20 - place;
    }

    int read() {
        String text = tape.toString();
        tape.setLength(0);
        int fault = fault(text);
        if (fault < 0) {
            return fault;
        }
        String[] parts = text.replace(" ", "").split(";");
        List<Door> doors = new ArrayList<>();
        for (String door : parts[0].split(",")) {
            doors.add(new Door(door.charAt(0) - '0', door.charAt(1) - '0', "+?=&".indexOf(door.charAt(2)),
                Integer.parseInt(door.substring(3))));
        }
        List<Man> men = new ArrayList<>();
        for (String man : parts.length == 1 ? new String[0] : parts[1].split(",")) {
            men.add(new Man("pswuc".indexOf(man.charAt(0)), man.charAt(1) - '0', "+?=&".indexOf(man.charAt(2)),
                man.length() == 3 ? 0 : man.charAt(4) - '0', 0, 0));
        }
        now = new State(doors, men, now.draw, List.of());
        return doors.size();
    }

    private int failed() {
        return now.men.stream().mapToInt(Man::failed).sum();
    }

    int count(int what) {
        if (out(what, 0, 5)) {
            return BAD;
        }
        int hard = now.doors.stream().mapToInt(Door::hard).sum();
        int cells = now.men.stream().mapToInt(one -> 1 << one.cell).reduce(0, (a, b) -> a | b);
        return new int[] {now.doors.size(), now.men.size(), hard, failed(), cells, now.past.size()}[what];
    }

    int attempt(int man, int door) {
        if (noMan(man) || noDoor(door)) {
            return BAD;
        }
        if (!d(door).joins(m(man).cell)) {
            return NOT;
        }
        does(now.doors, with(now.men, man, tried(m(man), door)), now.draw);
        return m(man).cell;
    }

    int whisper(int man, int door) {
        if (noMan(man) || noDoor(door)) {
            return BAD;
        }
        if ((m(man).known >> door & 1) == 1) {
            return NOT;
        }
        does(now.doors, with(now.men, man, m(man).knowing(m(man).known + (1 << door))), now.draw);
        return m(man).known;
    }

    int set(int door, int sort, int hard) {
        if (noDoor(door) || out(sort, 0, 3) || out(hard, 1, 19)) {
            return BAD;
        }
        Door was = d(door);
        List<Man> men = new ArrayList<>(now.men);
        men.replaceAll(one -> one.knowing(one.known & (1023 ^ 1 << door)));
        does(with(now.doors, door, new Door(was.a, was.b, sort, hard)), men, now.draw);
        return was.hard;
    }

    int study(int man) {
        if (noMan(man)) {
            return BAD;
        }
        Man was = m(man);
        if (was.wit == 9) {
            return NOT;
        }
        does(now.doors, with(now.men, man, was.having(was.kind, was.wit + 1, was.own)), now.draw);
        return was.wit + 1;
    }

    int drift(int n) {
        if (out(n, 1, 40)) {
            return BAD;
        }
        for (int k = 0; k < n; k++) {
            BigInteger next = BigInteger.valueOf(now.draw).multiply(BigInteger.valueOf(1103515245))
                .add(BigInteger.valueOf(12345)).mod(BigInteger.ONE.shiftLeft(31));
            int draw = next.intValueExact();
            if (now.men.isEmpty() || now.doors.isEmpty()) {
                does(now.doors, now.men, draw);
            } else {
                int man = (draw >> 16) % now.men.size();
                int door = (draw >> 7) % now.doors.size();
                does(now.doors, with(now.men, man, tried(m(man), door)), draw);
            }
        }
        return failed();
    }

    int undo() {
        if (now.past.isEmpty()) {
            return NONE;
        }
        State then = now.past.get(now.past.size() - 1);
        now = new State(then.doors, then.men, then.draw, now.past.subList(0, now.past.size() - 1));
        return now.past.size();
    }

    int seed(int v) {
        if (v < 0) {
            return BAD;
        }
        int was = now.draw;
        now = new State(now.doors, now.men, v, now.past);
        return was;
    }

    /** Doors from each cell to each by Floyd's means; FAR: none. */
    private int[][] net(Man who, int shut) {
        int[][] far = new int[8][8];
        for (int a = 0; a < 8; a++) {
            Arrays.fill(far[a], FAR);
            for (int k = 0; k < now.doors.size(); k++) {
                if ((shut >> k & 1) == 0 && can(who.in(a), k)) {
                    far[a][d(k).from(a)] = 1;
                }
            }
            far[a][a] = 0;
        }
        for (int c = 0; c < 8; c++) {
            for (int a = 0; a < 8; a++) {
                for (int b = 0; b < 8; b++) {
                    far[a][b] = Math.min(far[a][b], far[a][c] + far[c][b]);
                }
            }
        }
        return far;
    }

    private int steps(Man who, int cell, int shut) {
        return net(who, shut)[who.cell][cell];
    }

    /** All rows of as few doors, in their order. */
    private void rows(Man who, int cell, int[][] far, Deque<Integer> row, List<List<Integer>> found) {
        if (who.cell == cell) {
            found.add(new ArrayList<>(row));
            return;
        }
        for (int k = 0; k < now.doors.size(); k++) {
            if (can(who, k)) {
                Man then = who.in(d(k).from(who.cell));
                if (far[then.cell][cell] == far[who.cell][cell] - 1) {
                    row.addLast(k);
                    rows(then, cell, far, row, found);
                    row.removeLast();
                }
            }
        }
    }

    private List<List<Integer>> rows(int man, int cell) {
        List<List<Integer>> found = new ArrayList<>();
        int[][] far = net(m(man), 0);
        if (far[m(man).cell][cell] < FAR) {
            rows(m(man), cell, far, new ArrayDeque<>(), found);
        }
        return found;
    }

    int way(int man, int cell, int k) {
        if (noMan(man) || out(cell, 0, 7) || k < -1) {
            return BAD;
        }
        List<List<Integer>> found = rows(man, cell);
        if (found.isEmpty() || k >= found.get(0).size()) {
            return NONE;
        }
        return k == -1 ? found.get(0).size() : found.get(0).get(k);
    }

    int ways(int man, int cell) {
        return noMan(man) || out(cell, 0, 7) ? BAD : rows(man, cell).size() % 1000003;
    }

    private int cells(Man who) {
        int set = 0;
        for (int cell = 0; cell < 8; cell++) {
            set += steps(who, cell, 0) < FAR ? 1 << cell : 0;
        }
        return set;
    }

    int reach(int man) {
        return noMan(man) ? BAD : cells(m(man));
    }

    private static int order(int here, int left, int[][] far) {
        int best = left == 0 ? 0 : FAR;
        for (int cell = 0; cell < 8; cell++) {
            if ((left >> cell & 1) == 1 && far[here][cell] < FAR) {
                best = Math.min(best, far[here][cell] + order(cell, left - (1 << cell), far));
            }
        }
        return best;
    }

    int round(int man, int cells) {
        if (noMan(man) || out(cells, 0, 255)) {
            return BAD;
        }
        int[][] far = net(m(man), 0);
        for (int cell = 0; cell < 8; cell++) {
            if ((cells >> cell & 1) == 1 && far[m(man).cell][cell] >= FAR) {
                return NONE;
            }
        }
        int best = order(m(man).cell, cells & ~(1 << m(man).cell), far);
        return best >= FAR ? NONE : best;
    }

    int cut(int man, int cell, int what) {
        if (noMan(man) || out(cell, 0, 7) || out(what, 0, 1)) {
            return BAD;
        }
        if (m(man).cell == cell) {
            return NONE;
        }
        int best = -1;
        for (int shut = (1 << now.doors.size()) - 1; shut >= 0; shut--) {
            if (best < 0 || Integer.bitCount(shut) <= Integer.bitCount(best)) {
                best = steps(m(man), cell, shut) >= FAR ? shut : best;
            }
        }
        return what == 0 ? Integer.bitCount(best) : best;
    }

    int bridges(int man, int cell) {
        if (noMan(man) || out(cell, 0, 7)) {
            return BAD;
        }
        int set = 0;
        for (int k = 0; k < now.doors.size(); k++) {
            boolean apart = steps(m(man), cell, 0) < FAR && steps(m(man), cell, 1 << k) >= FAR;
            set += apart ? 1 << k : 0;
        }
        return set;
    }

    int wit(int man, int cell) {
        if (noMan(man) || out(cell, 0, 7)) {
            return BAD;
        }
        int least = NONE;
        for (int wit = 9; wit >= 0; wit--) {
            least = steps(m(man).having(m(man).kind, wit, m(man).own), cell, 0) < FAR ? wit : least;
        }
        return least;
    }

    int lesson(int man, int what) {
        if (noMan(man) || out(what, 0, 1)) {
            return BAD;
        }
        int best = 0;
        int most = 0;
        for (int own = 3; own >= 0; own--) {
            int many = Integer.bitCount(cells(m(man).having(m(man).kind, m(man).wit, own)));
            if (many >= most) {
                most = many;
                best = own;
            }
        }
        return what == 0 ? best : most;
    }

    int meet(int man, int other, int what) {
        if (noMan(man) || noMan(other) || man == other || out(what, 0, 1)) {
            return BAD;
        }
        for (int longer = 0; longer < 8; longer++) {
            for (int cell = 0; cell < 8; cell++) {
                if (Math.max(steps(m(man), cell, 0), steps(m(other), cell, 0)) == longer) {
                    return what == 0 ? cell : longer;
                }
            }
        }
        return NONE;
    }

    /** The fewest steps, whatever is shut; FAR: more than n. */
    private int hunted(Man who, int cell, int shut, int n) {
        if (who.cell == cell || n == 0) {
            return who.cell == cell ? 0 : FAR;
        }
        int fewest = FAR;
        for (int k = 0; k < now.doors.size(); k++) {
            if ((shut >> k & 1) == 1 || !can(who, k)) {
                continue;
            }
            Man then = who.in(d(k).from(who.cell));
            int most = then.cell == cell ? 0 : hunted(then, cell, shut, n - 1);
            for (int e = 0; e < now.doors.size() && then.cell != cell; e++) {
                most = Math.max(most, hunted(then, cell, shut | 1 << e, n - 1));
            }
            fewest = Math.min(fewest, most + 1);
        }
        return fewest;
    }

    int hunt(int man, int cell, int n) {
        if (noMan(man) || out(cell, 0, 7) || out(n, 0, 3)) {
            return BAD;
        }
        int fewest = hunted(m(man), cell, 0, n);
        return fewest > n ? NONE : fewest;
    }

    /** Odds as a fraction above, below, not in lowest terms. */
    private BigInteger[] odds(Man who, int cell, int n) {
        if (n == 0) {
            return new BigInteger[] {who.cell == cell ? BigInteger.ONE : BigInteger.ZERO, BigInteger.ONE};
        }
        List<Integer> open = new ArrayList<>();
        for (int k = 0; k < now.doors.size(); k++) {
            if (can(who, k)) {
                open.add(k);
            }
        }
        if (open.isEmpty()) {
            return odds(who, cell, n - 1);
        }
        BigInteger above = BigInteger.ZERO;
        BigInteger below = BigInteger.ONE;
        for (int k : open) {
            BigInteger[] one = odds(who.in(d(k).from(who.cell)), cell, n - 1);
            above = above.multiply(one[1]).add(one[0].multiply(below));
            below = below.multiply(one[1]);
            BigInteger common = above.gcd(below);
            above = above.divide(common);
            below = below.divide(common);
        }
        return new BigInteger[] {above, below.multiply(BigInteger.valueOf(open.size()))};
    }

    long wander(int man, int cell, int n, int what) {
        if (noMan(man) || out(cell, 0, 7) || out(n, 0, 4) || out(what, 0, 1)) {
            return BAD;
        }
        BigInteger[] fraction = odds(m(man), cell, n);
        return fraction[what].divide(fraction[0].gcd(fraction[1])).longValueExact();
    }

    int image() {
        kept = now;
        return 1;
    }

    int restore() {
        if (kept == null) {
            return NONE;
        }
        now = kept;
        return 1;
    }

    private int machine(int sheet, int lane, long i, long n) {
        if (sheets[sheet] == null) {
            return NULL;
        }
        if (lanes[sheet] != lane) {
            return CAST;
        }
        return i < 0 || n < 0 || i + n > sheets[sheet].length ? INDEX : 0;
    }

    private void put(int sheet, int i, long v) {
        int bits = 8 << lanes[sheet];
        sheets[sheet][i] = v << 64 - bits >> 64 - bits;
    }

    int heard(int man, int sheet, int lane, int i, int n, int what) {
        if (noMan(man) || out(sheet, 0, 3) || out(lane, 0, 3) || out(n, 1, 8) || out(what, 0, 1)) {
            return BAD;
        }
        int found = machine(sheet, lane, i, 2L * n);
        if (found != 0) {
            return found;
        }
        int set = 0;
        for (int guess = what == 0 ? 4 : 9; guess >= 0; guess--) {
            Man was = m(man);
            Man who = what == 0 ? was.having(guess, was.wit, was.own) : was.having(was.kind, guess, was.own);
            boolean so = true;
            for (int k = i; k < i + 2 * n; k += 2) {
                long door = sheets[sheet][k];
                long told = sheets[sheet][k + 1];
                if (door < 0 || door >= now.doors.size() || told != 0 && told != 1) {
                    return NOT;
                }
                so &= can(who, (int) door) == (told == 1);
                who = tried(who, (int) door);
            }
            set += so ? 1 << guess : 0;
        }
        return set;
    }

    int film(int man, int n, int sheet, int lane, int i) {
        if (noMan(man) || out(n, 1, 8) || out(sheet, 0, 3) || out(lane, 0, 3)) {
            return BAD;
        }
        int found = machine(sheet, lane, i, n);
        if (found != 0) {
            return found;
        }
        for (int cell = 0; cell < n; cell++) {
            int far = steps(m(man), cell, 0);
            put(sheet, i + cell, far >= FAR ? -4 : far);
        }
        return n;
    }

    int sheet(int sheet, int lane, int n) {
        if (out(sheet, 0, 3) || out(lane, 0, 3) || n > 24) {
            return BAD;
        }
        if (n < 0) {
            return SIZE;
        }
        sheets[sheet] = new long[n];
        lanes[sheet] = lane;
        return n;
    }

    int drop(int sheet) {
        if (out(sheet, 0, 3)) {
            return BAD;
        }
        if (sheets[sheet] == null) {
            return NULL;
        }
        int had = sheets[sheet].length;
        sheets[sheet] = null;
        return had;
    }

    int item(int sheet, int lane, int i, long v) {
        if (out(sheet, 0, 3) || out(lane, 0, 3)) {
            return BAD;
        }
        int found = machine(sheet, lane, i, 1);
        if (found != 0) {
            return found;
        }
        put(sheet, i, v);
        return 1;
    }

    int copy(int from, int i, int to, int j, int n) {
        if (out(from, 0, 3) || out(to, 0, 3)) {
            return BAD;
        }
        if (sheets[from] == null || sheets[to] == null) {
            return NULL;
        }
        if (lanes[from] != lanes[to]) {
            return CAST;
        }
        if (machine(from, lanes[from], i, n) != 0 || machine(to, lanes[to], j, n) != 0) {
            return INDEX;
        }
        long[] taken = Arrays.copyOfRange(sheets[from], i, i + n);
        for (int k = 0; k < n; k++) {
            sheets[to][j + k] = taken[k];
        }
        return n;
    }
}
