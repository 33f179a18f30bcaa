import java.util.Random;

/** All promises: long runs of calls, each answered by the class and by the oracle alike. */
public final class OracleTest {
    private static final int RUNS = 1500;
    private static final int CALLS = 400;
    private static final int[] ODD = {
        Integer.MIN_VALUE, Integer.MIN_VALUE + 1, -65536, -257, -3, -2, -1, 0, 1, 2, 3, 4, 7, 8, 9, 10, 19, 20, 24, 25,
        31, 32, 40, 41, 126, 127, 255, 256, 1 << 16, 1 << 30, Integer.MAX_VALUE - 1, Integer.MAX_VALUE,
    };
    private static final String LETTERS = "0123456789+?=&,;@pswuc x";

    private final Due due = new Due();
    private Random random;
    private RiddlePrison prison;
    private Oracle oracle;
    private int run;

    public static void main(String[] args) {
        OracleTest test = new OracleTest();
        for (int run = 0; run < RUNS; run++) {
            test.begin(run);
            for (int k = 0; k < CALLS; k++) {
                test.call(test.random.nextInt(100));
            }
            test.compareAll();
        }
        test.due.end();
    }

    private void begin(int number) {
        run = number;
        random = new Random(number);
        prison = new RiddlePrison();
        oracle = new Oracle();
        if (number % 2 == 0) {
            typeText(text());
            is("read()", prison.read(), oracle.read());
        }
    }

    private void is(String call, long got, long want) {
        due.is("run " + run + ": " + call, got, want);
    }

    /** Mostly a number below the bound, at times one that is off. */
    private int number(int bound) {
        int kind = random.nextInt(40);
        if (kind == 0) {
            return ODD[random.nextInt(ODD.length)];
        }
        return kind == 1 ? random.nextInt(bound + 3) - 1 : random.nextInt(bound);
    }

    private int thing(int many) {
        return number(Math.max(1, many));
    }

    private int aDoor() {
        return thing(oracle.count(0));
    }

    private int aMan() {
        return thing(oracle.count(1));
    }

    private String text() {
        StringBuilder made = new StringBuilder();
        int doors = 1 + random.nextInt(10);
        int cells = 2 + random.nextInt(7);
        for (int k = 0; k < doors; k++) {
            int a = random.nextInt(cells);
            int b = (a + 1 + random.nextInt(cells - 1)) % cells;
            made.append(k == 0 ? "" : ",").append(a).append(b).append("+?=&".charAt(random.nextInt(4)))
                .append(1 + random.nextInt(random.nextInt(4) == 0 ? 19 : 9));
        }
        int men = random.nextInt(5);
        for (int k = 0; k < men; k++) {
            made.append(k == 0 ? ";" : ",").append("pswuc".charAt(random.nextInt(5))).append(random.nextInt(10))
                .append("+?=&".charAt(random.nextInt(4)));
            if (random.nextInt(2) == 0) {
                made.append('@').append(random.nextInt(cells));
            }
        }
        return made.toString();
    }

    private String spoiltText() {
        StringBuilder made = new StringBuilder(text());
        for (int k = random.nextInt(4); k > 0 && made.length() > 0; k--) {
            int place = random.nextInt(made.length());
            char letter = LETTERS.charAt(random.nextInt(LETTERS.length()));
            switch (random.nextInt(5)) {
                case 0: made.setCharAt(place, letter); break;
                case 1: made.insert(place, letter); break;
                case 2: made.deleteCharAt(place); break;
                case 3: made.insert(place, ' '); break;
                default: made.setLength(random.nextInt(6) == 0 ? place : made.length());
            }
        }
        return made.toString();
    }

    private void typeText(String text) {
        for (int k = 0; k < text.length(); k++) {
            is("type " + text.charAt(k), prison.type(text.charAt(k)), oracle.type(text.charAt(k)));
        }
    }

    private void call(int kind) {
        if (kind < 24) {
            build(kind);
        } else if (kind < 48) {
            act(kind - 24);
        } else if (kind < 72) {
            foretell(kind - 48);
        } else {
            write(kind - 72);
        }
    }

    private void build(int kind) {
        int a = number(8);
        int b = number(8);
        int sort = number(4);
        switch (kind) {
            case 0: case 1: case 2:
                int hard = 1 + number(random.nextInt(3) == 0 ? 19 : 9);
                is("door " + a + b + sort + hard, prison.door(a, b, sort, hard), oracle.door(a, b, sort, hard));
                break;
            case 3: case 4:
                int type = number(5);
                int wit = number(10);
                is("man", prison.man(type, wit, sort, a), oracle.man(type, wit, sort, a));
                break;
            case 5:
                String text = random.nextInt(8) == 0 ? text() : spoiltText();
                typeText(text);
                is("read " + text, prison.read(), oracle.read());
                break;
            case 6:
                int letter = number(128);
                is("type " + letter, prison.type(letter), oracle.type(letter));
                break;
            case 7:
                is("read()", prison.read(), oracle.read());
                break;
            case 8: case 9: case 10: case 11:
                int door = aDoor();
                int what = number(6);
                is("of " + door + " " + what, prison.of(door, what), oracle.of(door, what));
                break;
            case 12: case 13: case 14: case 15:
                int man = aMan();
                int about = number(7);
                is("at " + man + " " + about, prison.at(man, about), oracle.at(man, about));
                break;
            case 16: case 17: case 18:
                int who = aMan();
                int which = aDoor();
                is("power " + who + " " + which, prison.power(who, which), oracle.power(who, which));
                break;
            default:
                int of = number(6);
                is("count " + of, prison.count(of), oracle.count(of));
        }
    }

    private void act(int kind) {
        int man = aMan();
        int door = aDoor();
        switch (kind) {
            case 0: case 1: case 2:
                is("whisper " + man + " " + door, prison.whisper(man, door), oracle.whisper(man, door));
                break;
            case 3: case 4:
                int sort = number(4);
                int hard = 1 + number(12);
                is("set " + door, prison.set(door, sort, hard), oracle.set(door, sort, hard));
                break;
            case 5:
                is("study " + man, prison.study(man), oracle.study(man));
                break;
            case 6: case 7:
                int n = number(random.nextInt(3) == 0 ? 41 : 5);
                is("drift " + n, prison.drift(n), oracle.drift(n));
                break;
            case 8: case 9: case 10:
                is("undo", prison.undo(), oracle.undo());
                break;
            case 11:
                int v = random.nextInt(3) == 0 ? number(100) : random.nextInt();
                is("seed " + v, prison.seed(v), oracle.seed(v));
                break;
            case 12:
                is("image", prison.image(), oracle.image());
                break;
            case 13:
                is("restore", prison.restore(), oracle.restore());
                break;
            default:
                is("attempt " + man + " " + door, prison.attempt(man, door), oracle.attempt(man, door));
        }
    }

    private void foretell(int kind) {
        int man = aMan();
        int cell = number(8);
        int what = number(2);
        String told = man + " " + cell + " " + what;
        switch (kind) {
            case 0: case 1: case 2: case 3: case 4:
                int k = number(9) - 1;
                is("way " + man + " " + cell + " " + k, prison.way(man, cell, k), oracle.way(man, cell, k));
                break;
            case 5: case 6:
                is("ways " + told, prison.ways(man, cell), oracle.ways(man, cell));
                break;
            case 7: case 8:
                is("reach " + told, prison.reach(man), oracle.reach(man));
                break;
            case 9: case 10:
                int cells = random.nextInt(2) == 0 ? number(256) : number(256) & Math.max(0, oracle.reach(man));
                is("round " + man + " " + cells, prison.round(man, cells), oracle.round(man, cells));
                break;
            case 11:
                is("cut " + told, prison.cut(man, cell, what), oracle.cut(man, cell, what));
                break;
            case 12: case 13:
                is("bridges " + told, prison.bridges(man, cell), oracle.bridges(man, cell));
                break;
            case 14: case 15:
                is("wit " + told, prison.wit(man, cell), oracle.wit(man, cell));
                break;
            case 16: case 17:
                is("lesson " + told, prison.lesson(man, what), oracle.lesson(man, what));
                break;
            case 18: case 19:
                int other = aMan();
                is("meet " + other + " " + told, prison.meet(man, other, what), oracle.meet(man, other, what));
                break;
            case 20: case 21:
                int n = number(4);
                is("hunt " + told + " " + n, prison.hunt(man, cell, n), oracle.hunt(man, cell, n));
                break;
            default:
                int times = number(5);
                is("wander " + told + " " + times, prison.wander(man, cell, times, what),
                    oracle.wander(man, cell, times, what));
        }
    }

    private void write(int kind) {
        int sheet = number(2);
        int lane = random.nextInt(3) == 0 ? number(4) : sheet & 3;
        int i = number(random.nextInt(3) == 0 ? 25 : 8);
        int man = aMan();
        switch (kind) {
            case 0: case 1:
                int size = number(25);
                is("sheet " + sheet + " " + size, prison.sheet(sheet, lane, size), oracle.sheet(sheet, lane, size));
                break;
            case 2:
                if (random.nextInt(4) == 0) {
                    is("drop " + sheet, prison.drop(sheet), oracle.drop(sheet));
                }
                break;
            case 3: case 4: case 5: case 6: case 7: case 8: case 9: case 10: case 11:
                long v = random.nextInt(12) == 0 ? random.nextLong() : random.nextInt(3) == 0 ? aDoor() : number(2);
                is("item " + sheet + " " + i + " " + v, prison.item(sheet, lane, i, v),
                    oracle.item(sheet, lane, i, v));
                break;
            case 12: case 13: case 14:
                int to = number(2);
                int j = number(24);
                int many = number(12);
                is("copy " + sheet + " " + i + " " + to + " " + j + " " + many,
                    prison.copy(sheet, i, to, j, many), oracle.copy(sheet, i, to, j, many));
                break;
            case 15: case 16:
                int cells = number(9);
                is("film " + man + " " + cells, prison.film(man, cells, sheet, lane, i),
                    oracle.film(man, cells, sheet, lane, i));
                break;
            default:
                int pairs = number(random.nextInt(2) == 0 ? 9 : 4);
                int what = number(2);
                is("heard " + man + " " + sheet + " " + i + " " + pairs,
                    prison.heard(man, sheet, lane, i, pairs, what), oracle.heard(man, sheet, lane, i, pairs, what));
        }
    }

    private void compareAll() {
        for (int k = 0; k < 10; k++) {
            for (int what = 0; what < 7; what++) {
                is("at last of", prison.of(k, what), oracle.of(k, what));
                is("at last at", prison.at(k, what), oracle.at(k, what));
            }
            for (int cell = 0; cell < 8 && k < 4; cell++) {
                is("at last way", prison.way(k, cell, -1), oracle.way(k, cell, -1));
                is("at last ways", prison.ways(k, cell), oracle.ways(k, cell));
                is("at last cut", prison.cut(k, cell, 1), oracle.cut(k, cell, 1));
                is("at last hunt", prison.hunt(k, cell, 3), oracle.hunt(k, cell, 3));
            }
        }
        is("at last draw", prison.seed(1), oracle.seed(1));
    }
}
