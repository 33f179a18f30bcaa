/** Promises 1 to 6 and 9: a new object, door, man, of, at, power, count. */
public final class DoorsMenTest {
    private static final Due DUE = new Due();

    public static void main(String[] args) {
        newObject();
        doors();
        men();
        ofDoor();
        atMan();
        powers();
        counts();
        DUE.end();
    }

    private static void newObject() {
        RiddlePrison x = new RiddlePrison();
        for (int what = 0; what < 6; what++) {
            DUE.is("new count " + what, x.count(what), 0);
        }
        DUE.is("new of", x.of(0, 0), RiddlePrison.BAD);
        DUE.is("new at", x.at(0, 0), RiddlePrison.BAD);
        DUE.is("new undo", x.undo(), RiddlePrison.NONE);
        DUE.is("new restore", x.restore(), RiddlePrison.NONE);
        DUE.is("new seed", x.seed(7), 1);
        for (int sheet = 0; sheet < 4; sheet++) {
            DUE.is("new drop", x.drop(sheet), RiddlePrison.NULL);
        }
        DUE.is("new type", x.type('0'), 1);
    }

    private static void doors() {
        RiddlePrison x = new RiddlePrison();
        int[][] bad = {
            {-1, 1, 0, 1}, {8, 1, 0, 1}, {0, -1, 0, 1}, {0, 8, 0, 1}, {3, 3, 0, 1}, {0, 1, -1, 1}, {0, 1, 4, 1},
            {0, 1, 0, 0}, {0, 1, 0, 20}, {0, 1, 0, -5}, {Integer.MIN_VALUE, Integer.MAX_VALUE, 0, 1},
        };
        for (int[] row : bad) {
            DUE.is("bad door", x.door(row[0], row[1], row[2], row[3]), RiddlePrison.BAD);
        }
        DUE.is("doors after bad ones", x.count(0), 0);
        for (int k = 0; k < 10; k++) {
            DUE.is("door " + k, x.door(7, k % 7, k % 4, k + 1), k);
        }
        DUE.is("door 10", x.door(0, 1, 0, 19), RiddlePrison.FULL);
        DUE.is("bad ahead of full", x.door(0, 0, 0, 19), RiddlePrison.BAD);
        DUE.is("doors", x.count(0), 10);
        for (int k = 0; k < 10; k++) {
            DUE.is("first", x.of(k, 0), 7);
            DUE.is("other", x.of(k, 1), k % 7);
            DUE.is("sort", x.of(k, 2), k % 4);
            DUE.is("hard", x.of(k, 3), k + 1);
        }
    }

    private static void men() {
        RiddlePrison x = new RiddlePrison();
        int[][] bad = {
            {-1, 0, 0, 0}, {5, 0, 0, 0}, {0, -1, 0, 0}, {0, 10, 0, 0}, {0, 0, -1, 0}, {0, 0, 4, 0}, {0, 0, 0, -1},
            {0, 0, 0, 8},
        };
        for (int[] row : bad) {
            DUE.is("bad man", x.man(row[0], row[1], row[2], row[3]), RiddlePrison.BAD);
        }
        for (int k = 0; k < 4; k++) {
            DUE.is("man " + k, x.man(k + 1, 9 - k, 3 - k, 7 - k), k);
        }
        DUE.is("man 4", x.man(0, 0, 0, 0), RiddlePrison.FULL);
        DUE.is("bad ahead of full", x.man(0, 0, 0, 9), RiddlePrison.BAD);
        for (int k = 0; k < 4; k++) {
            DUE.is("kind", x.at(k, 0), k + 1);
            DUE.is("wit", x.at(k, 1), 9 - k);
            DUE.is("own", x.at(k, 2), 3 - k);
            DUE.is("cell", x.at(k, 3), 7 - k);
            DUE.is("known", x.at(k, 4), 0);
            DUE.is("failed", x.at(k, 5), 0);
        }
    }

    private static void ofDoor() {
        RiddlePrison x = Due.prison("01+4,12?7;p4+,p3+,p9+@2,s4?@1");
        DUE.is("who pass door 0", x.of(0, 5), 0b1001);
        DUE.is("who pass door 1", x.of(1, 5), 0b1100);
        x.whisper(1, 0);
        x.whisper(2, 0);
        DUE.is("who know door 0", x.of(0, 4), 0b0110);
        DUE.is("who pass it now: not the one in another cell", x.of(0, 5), 0b1011);
        DUE.is("who know door 1", x.of(1, 4), 0);
        DUE.is("no such what", x.of(0, 6), RiddlePrison.BAD);
        DUE.is("no such what", x.of(0, -1), RiddlePrison.BAD);
        DUE.is("no such door", x.of(2, 0), RiddlePrison.BAD);
        DUE.is("no such door", x.of(-1, 0), RiddlePrison.BAD);
    }

    private static void atMan() {
        RiddlePrison x = Due.prison("01+5,02+6,03+4,12+1;p5&");
        DUE.is("passes", x.at(0, 6), 0b0101);
        x.whisper(0, 3);
        x.whisper(0, 1);
        DUE.is("knows", x.at(0, 4), 0b1010);
        DUE.is("passes those of his cell", x.at(0, 6), 0b0111);
        DUE.is("own", x.at(0, 2), 3);
        DUE.is("no such what", x.at(0, 7), RiddlePrison.BAD);
        DUE.is("no such what", x.at(0, -1), RiddlePrison.BAD);
        DUE.is("no such man", x.at(1, 0), RiddlePrison.BAD);
        DUE.is("no such man", x.at(-1, 0), RiddlePrison.BAD);
    }

    /** Doors of all sorts at cells 0 and 1; every kind, whose own sort is SUMS or PUNS. */
    private static void powers() {
        int[][] inCell0 = {{5, 5, 5, 5}, {8, 5, 5, 5}, {5, 5, 5, 5}, {0, 5, 5, 5}, {5, 5, 5, 5}};
        int[][] inCell1 = {{5, 5, 5, 5}, {5, 8, 5, 5}, {7, 7, 7, 7}, {0, 8, 5, 5}, {7, 7, 7, 7}};
        for (int kind = 0; kind < 5; kind++) {
            RiddlePrison x = Due.prison("01+19,01?19,01=19,01&19,23+1");
            x.man(kind, 5, 0, 0);
            x.man(kind, 5, 1, 1);
            for (int sort = 0; sort < 4; sort++) {
                DUE.is("power of kind " + kind + " at " + sort, x.power(0, sort), inCell0[kind][sort]);
                DUE.is("power of kind " + kind + " at " + sort, x.power(1, sort), inCell1[kind][sort]);
            }
            for (int times = 1; times <= 11; times++) {
                x.attempt(1, 1);
                int more = kind == 4 ? Math.min(times, 9) : 0;
                DUE.is("power after failures", x.power(1, 2), inCell1[kind][2] + more);
            }
            DUE.is("not of his cell", x.power(0, 4), RiddlePrison.NOT);
            DUE.is("no such man", x.power(2, 0), RiddlePrison.BAD);
            DUE.is("no such man", x.power(-1, 0), RiddlePrison.BAD);
            DUE.is("no such door", x.power(0, 5), RiddlePrison.BAD);
            DUE.is("no such door", x.power(0, -1), RiddlePrison.BAD);
        }
        RiddlePrison y = Due.prison("01+8,01+9;s5+");
        DUE.is("as much as hard", y.at(0, 6), 1);
    }

    private static void counts() {
        RiddlePrison x = Due.prison("01+19,12?9;p0+,p0+@1,p0?@1");
        x.attempt(0, 0);
        x.attempt(1, 0);
        x.attempt(1, 1);
        DUE.is("doors", x.count(0), 2);
        DUE.is("men", x.count(1), 3);
        DUE.is("hard", x.count(2), 28);
        DUE.is("failed", x.count(3), 3);
        DUE.is("cells", x.count(4), 0b11);
        DUE.is("undoable", x.count(5), 3);
        DUE.is("no such what", x.count(6), RiddlePrison.BAD);
        DUE.is("no such what", x.count(-1), RiddlePrison.BAD);
    }
}
