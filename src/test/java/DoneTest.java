/** Promises 10 to 16: attempt, whisper, set, study, drift, undo, seed. */
public final class DoneTest {
    private static final Due DUE = new Due();

    public static void main(String[] args) {
        attempts();
        failures();
        whispers();
        setAnew();
        studies();
        drifts();
        undone();
        whatIsRefused();
        seeds();
        DUE.end();
    }

    private static void attempts() {
        RiddlePrison x = Due.prison("01+4,12?7;p4+,w5?@1");
        DUE.is("passes", x.attempt(0, 0), 1);
        DUE.is("where", x.at(0, 3), 1);
        DUE.is("fails", x.attempt(0, 1), 1);
        DUE.is("failed", x.at(0, 5), 1);
        DUE.is("passes back", x.attempt(0, 0), 0);
        DUE.is("not of his cell", x.attempt(0, 1), RiddlePrison.NOT);
        DUE.is("not failed by it", x.at(0, 5), 1);
        DUE.is("a warder from an odd cell", x.attempt(1, 1), 2);
        DUE.is("not back from an even one", x.attempt(1, 1), 2);
        DUE.is("no such man", x.attempt(2, 0), RiddlePrison.BAD);
        DUE.is("no such man", x.attempt(-1, 0), RiddlePrison.BAD);
        DUE.is("no such door", x.attempt(0, 2), RiddlePrison.BAD);
        DUE.is("no such door", x.attempt(0, -1), RiddlePrison.BAD);
    }

    private static void failures() {
        RiddlePrison x = Due.prison("01+19;p0+,c0+");
        for (int k = 1; k <= 101; k++) {
            x.attempt(0, 0);
            DUE.is("failed", x.at(0, 5), Math.min(k, 99));
        }
        for (int k = 1; k <= 20; k++) {
            DUE.is("a chaplain has 9 more at most", x.attempt(1, 0), 0);
        }
        Due.read(x, "01+9;c0+");
        for (int k = 1; k <= 9; k++) {
            DUE.is("nine years", x.attempt(0, 0), 0);
        }
        DUE.is("and then", x.attempt(0, 0), 1);
    }

    private static void whispers() {
        RiddlePrison x = Due.prison("01+19,12?19,01=19;p0+,p0+");
        DUE.is("whisper", x.whisper(0, 1), 0b010);
        DUE.is("whisper", x.whisper(0, 0), 0b011);
        DUE.is("he knows", x.whisper(0, 1), RiddlePrison.NOT);
        DUE.is("the other does not", x.at(1, 4), 0);
        DUE.is("he passes", x.attempt(0, 0), 1);
        DUE.is("no such man", x.whisper(2, 0), RiddlePrison.BAD);
        DUE.is("no such door", x.whisper(0, 3), RiddlePrison.BAD);
        DUE.is("undoable", x.count(5), 3);
    }

    private static void setAnew() {
        RiddlePrison x = Due.prison("01+4,12?7;p0+,p0+");
        x.whisper(0, 0);
        x.whisper(1, 0);
        x.whisper(1, 1);
        DUE.is("set", x.set(0, 2, 19), 4);
        DUE.is("sort", x.of(0, 2), 2);
        DUE.is("hard", x.of(0, 3), 19);
        DUE.is("nobody knows it", x.of(0, 4), 0);
        DUE.is("but the other one", x.of(1, 4), 0b10);
        DUE.is("set alike", x.set(0, 2, 19), 19);
        int[][] bad = {{2, 0, 1}, {-1, 0, 1}, {0, -1, 1}, {0, 4, 1}, {0, 0, 0}, {0, 0, 20}};
        for (int[] row : bad) {
            DUE.is("bad set", x.set(row[0], row[1], row[2]), RiddlePrison.BAD);
        }
        DUE.is("undoable", x.count(5), 5);
        x.undo();
        x.undo();
        DUE.is("known again", x.of(0, 4), 0b11);
        DUE.is("hard again", x.of(0, 3), 4);
        DUE.is("sort again", x.of(0, 2), 0);
    }

    private static void studies() {
        RiddlePrison x = Due.prison("01+4;p7+");
        DUE.is("study", x.study(0), 8);
        DUE.is("study", x.study(0), 9);
        DUE.is("no more", x.study(0), RiddlePrison.NOT);
        DUE.is("undoable", x.count(5), 2);
        DUE.is("no such man", x.study(1), RiddlePrison.BAD);
        DUE.is("no such man", x.study(-1), RiddlePrison.BAD);
    }

    /** With seed 1 the draws are 1103527590, 377401575, 662824084, 1147902781, .. */
    private static void drifts() {
        RiddlePrison x = new RiddlePrison();
        DUE.is("nobody", x.drift(1), 0);
        DUE.is("the draw goes on", x.seed(1), 1103527590);
        x.man(0, 5, 0, 0);
        x.man(0, 5, 0, 0);
        DUE.is("no doors", x.drift(2), 0);
        DUE.is("the draw goes on", x.seed(1), 377401575);
        x.door(0, 1, 0, 9);
        x.door(0, 2, 0, 5);
        x.door(1, 2, 0, 5);
        // 1103527590 by 65536 is 16838: man 0; by 128 is 8621309: door 2, not of his cell
        DUE.is("not of his cell", x.drift(1), 0);
        // 377401575 by 65536 is 5758: man 0; by 128 is 2948449: door 1, which he passes
        DUE.is("passes", x.drift(1), 0);
        DUE.is("where", x.at(0, 3), 2);
        // 662824084 by 65536 is 10113: man 1; by 128 is 5178313: door 1
        DUE.is("the other one", x.drift(1), 0);
        DUE.is("where", x.at(1, 3), 2);
        DUE.is("the draw", x.seed(1), 662824084);
        DUE.is("undoable", x.count(5), 3);
        DUE.is("many", x.drift(40), x.count(3));
        DUE.is("undoable", x.count(5), 8);
        DUE.is("none", x.drift(0), RiddlePrison.BAD);
        DUE.is("too many", x.drift(41), RiddlePrison.BAD);
        DUE.is("fewer than none", x.drift(-1), RiddlePrison.BAD);
        RiddlePrison y = Due.prison("01+9;p5+");
        DUE.is("fails each time", y.drift(40), 40);
        DUE.is("fails up to 99", y.drift(40), 80);
        DUE.is("fails up to 99", y.drift(40), 99);
    }

    private static void undone() {
        RiddlePrison x = Due.prison("01+4;p4+,p0+");
        x.seed(5);
        x.attempt(0, 0);
        x.attempt(1, 0);
        x.whisper(1, 0);
        x.set(0, 3, 2);
        x.study(1);
        x.drift(2);
        x.seed(9);
        DUE.is("undo", x.undo(), 6);
        x.undo();
        DUE.is("the draw as ahead of it", x.seed(6), 5);
        DUE.is("undo a study", x.undo(), 4);
        DUE.is("wit", x.at(1, 1), 0);
        DUE.is("undo a set", x.undo(), 3);
        DUE.is("hard", x.of(0, 3), 4);
        DUE.is("sort", x.of(0, 2), 0);
        DUE.is("who know", x.of(0, 4), 0b10);
        DUE.is("undo a whisper", x.undo(), 2);
        DUE.is("who know", x.of(0, 4), 0);
        DUE.is("failed", x.at(1, 5), 1);
        DUE.is("undo a failure", x.undo(), 1);
        DUE.is("failed", x.at(1, 5), 0);
        DUE.is("undo a step", x.undo(), 0);
        DUE.is("where", x.at(0, 3), 0);
        DUE.is("no more", x.undo(), RiddlePrison.NONE);
        DUE.is("the draw as ahead of the first", x.seed(0), 5);
        for (int k = 0; k < 9; k++) {
            x.study(1);
        }
        for (int k = 7; k >= 0; k--) {
            DUE.is("undo", x.undo(), k);
        }
        DUE.is("the ninth is lost", x.undo(), RiddlePrison.NONE);
        DUE.is("wit", x.at(1, 1), 1);
        x.study(1);
        x.door(0, 3, 0, 1);
        DUE.is("a new door", x.count(5), 0);
        x.study(1);
        x.man(0, 0, 0, 0);
        DUE.is("a new man", x.undo(), RiddlePrison.NONE);
        x.study(1);
        Due.read(x, "01+1");
        DUE.is("a prison", x.undo(), RiddlePrison.NONE);
    }

    private static void whatIsRefused() {
        RiddlePrison x = Due.prison("01+4,12+4;p9+,p0+,p0+,p0+");
        x.whisper(1, 0);
        x.attempt(0, 1);
        x.whisper(1, 0);
        x.study(0);
        x.set(2, 0, 1);
        x.drift(41);
        x.seed(-1);
        x.door(0, 0, 0, 1);
        x.man(0, 0, 0, 0);
        DUE.is("undoable", x.count(5), 1);
        DUE.is("undo", x.undo(), 0);
        DUE.is("known", x.at(1, 4), 0);
        RiddlePrison full = Due.prison("01+1,01+1,01+1,01+1,01+1,01+1,01+1,01+1,01+1,01+1;p0+");
        full.study(0);
        DUE.is("full", full.door(0, 1, 0, 1), RiddlePrison.FULL);
        DUE.is("undoable still", full.count(5), 1);
    }

    private static void seeds() {
        RiddlePrison x = new RiddlePrison();
        DUE.is("seed", x.seed(Integer.MAX_VALUE), 1);
        DUE.is("below 0", x.seed(-1), RiddlePrison.BAD);
        DUE.is("below 0", x.seed(Integer.MIN_VALUE), RiddlePrison.BAD);
        DUE.is("seed", x.seed(0), Integer.MAX_VALUE);
        x.drift(1);
        DUE.is("seed", x.seed(0), 12345);
        DUE.is("no step to be undone", x.count(5), 1);
    }
}
