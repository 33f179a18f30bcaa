/** Promises 28 and 29: image, restore. */
public final class ImageTest {
    private static final Due DUE = new Due();

    public static void main(String[] args) {
        RiddlePrison x = Due.prison("01+4;p4+,c0?@1");
        DUE.is("none", x.restore(), RiddlePrison.NONE);
        x.attempt(0, 0);
        x.attempt(1, 0);
        x.whisper(1, 0);
        x.seed(42);
        DUE.is("image", x.image(), 1);
        changeAll(x);
        DUE.is("restore", x.restore(), 1);
        asThen(x);
        DUE.is("what may be undone is as then", x.undo(), 2);
        x.undo();
        x.undo();
        DUE.is("as ahead of all", x.at(0, 3), 0);
        DUE.is("restore again", x.restore(), 1);
        asThen(x);
        x.study(0);
        DUE.is("image in place of the other", x.image(), 1);
        x.study(0);
        x.restore();
        DUE.is("wit", x.at(0, 1), 5);
        sheetsAndTapeStay(x);
        DUE.end();
    }

    private static void changeAll(RiddlePrison x) {
        x.set(0, 3, 9);
        x.study(0);
        x.drift(20);
        Due.read(x, "56&7,67=8,75?9;u1&@5");
        x.door(1, 2, 3, 4);
    }

    private static void asThen(RiddlePrison x) {
        DUE.is("doors", x.count(0), 1);
        DUE.is("men", x.count(1), 2);
        DUE.is("undoable", x.count(5), 3);
        int[] door = {0, 1, 0, 4, 0b10, 0b11};
        for (int what = 0; what < door.length; what++) {
            DUE.is("of " + what, x.of(0, what), door[what]);
        }
        int[][] men = {{0, 4, 0, 1, 0, 0, 1}, {4, 0, 1, 1, 1, 1, 1}};
        for (int man = 0; man < 2; man++) {
            for (int what = 0; what < 7; what++) {
                DUE.is("at " + man + " " + what, x.at(man, what), men[man][what]);
            }
        }
        DUE.is("the draw", x.seed(42), 42);
    }

    private static void sheetsAndTapeStay(RiddlePrison x) {
        x.image();
        x.sheet(0, 3, 5);
        x.type('0');
        x.type('1');
        x.restore();
        DUE.is("the tape stays", x.type('+'), 3);
        DUE.is("the sheet stays", x.drop(0), 5);
        x.image();
        x.restore();
        DUE.is("a sheet does not come back", x.drop(0), RiddlePrison.NULL);
        DUE.is("the tape is read", Due.read(x, "7"), 1);
        x.restore();
        DUE.is("the image outlives a prison", x.count(1), 2);
    }
}
