/** Promises 7 and 8: type, read. */
public final class TextTest {
    private static final Due DUE = new Due();

    public static void main(String[] args) {
        tape();
        faults();
        whole();
        faultChangesNothing();
        DUE.end();
    }

    private static void tape() {
        RiddlePrison x = new RiddlePrison();
        for (int letter : new int[] {Integer.MIN_VALUE, -1, 0, 31, 127, 256 + 48, Integer.MAX_VALUE}) {
            DUE.is("type " + letter, x.type(letter), RiddlePrison.BAD);
        }
        for (int k = 1; k <= 90; k++) {
            DUE.is("type", x.type(k % 2 == 0 ? 32 : 126), k);
        }
        DUE.is("type 91st", x.type(48), RiddlePrison.FULL);
        DUE.is("bad ahead of full", x.type(31), RiddlePrison.BAD);
        DUE.is("read", x.read(), -20);
        DUE.is("the tape is empty", x.type(48), 1);
    }

    private static void faults() {
        Object[][] rows = {
            {"", -20}, {"   ", -23}, {"8", -20}, {"  8", -22}, {"0", -21}, {"00", -21}, {"0 0", -22}, {"08", -21},
            {"0 1 + 5", 1}, {"01+", -23}, {"01 + ", -25}, {"01-5", -22}, {"01+x", -23}, {"01+0", -23},
            {"01+00", -23}, {"01+01", 1}, {"01+19", 1}, {"01+20", -23}, {"01+ 20", -24}, {"01+200", -23},
            {"01+190", -25}, {"01+1 9", -25}, {"01+99x", -23}, {"01+5 ", 1}, {"01+5,", -25}, {"01+5, ", -26},
            {"01+5,11+5", -26}, {"01+5,12?19,77", -32}, {"01+5;;", -25}, {"01+5,;", -25}, {"01+5;p", -26},
            {"01+5;p5", -27}, {"01+5;p55+", -27}, {"01+5;p5+5", -28}, {"01+5;p5+@8", -29}, {"01+5;p5+@", -29},
            {"01+5;p5+@7", 1}, {"01+5;p5+@77", -30}, {"01+5;p5+,", -29}, {"01+5;p5+,w", -30},
            {"01+5;p5+;", -28}, {"01+5 ; p 5 + @ 7 , c 0 & ", 1}, {"01+5;P5+", -25}, {"01+5x", -24},
            {"01+5;p0+,p1+,p2+,p3+", 1}, {"01+5;p0+,p1+,p2+,p3+,", -40}, {"01+5;p0+,p1+,p2+,p3+ ,p4+", -41},
            {"01+1,01+1,01+1,01+1,01+1,01+1,01+1,01+1,01+1,01+1", 10},
            {"01+1,01+1,01+1,01+1,01+1,01+1,01+1,01+1,01+1,01+1,01+1", -69},
            {"01+1,01+1,01+1,01+1,01+1,01+1,01+1,01+1,01+1,01+1;u9&@3", 10},
        };
        for (Object[] row : rows) {
            DUE.is("read " + row[0], Due.read(new RiddlePrison(), (String) row[0]), (Integer) row[1]);
        }
    }

    private static void whole() {
        RiddlePrison x = new RiddlePrison();
        x.door(5, 6, 3, 3);
        x.man(0, 1, 2, 3);
        x.whisper(0, 0);
        x.seed(77);
        DUE.is("read", Due.read(x, "76&19,01=01;p0+,s1?@1,w2=@2,u9&@7"), 2);
        int[][] doors = {{7, 6, 3, 19, 0, 0}, {0, 1, 2, 1, 0, 0b10}};
        int[][] men = {{0, 0, 0, 0, 0, 0}, {1, 1, 1, 1, 0, 0}, {2, 2, 2, 2, 0, 0}, {3, 9, 3, 7, 0, 0}};
        for (int d = 0; d < 2; d++) {
            for (int what = 0; what < 6; what++) {
                DUE.is("of " + d + " " + what, x.of(d, what), doors[d][what]);
            }
        }
        for (int m = 0; m < 4; m++) {
            for (int what = 0; what < 6; what++) {
                DUE.is("at " + m + " " + what, x.at(m, what), men[m][what]);
            }
        }
        DUE.is("nothing to be undone", x.count(5), 0);
        DUE.is("the draw stays", x.seed(0), 77);
        DUE.is("read without men", Due.read(x, "01+1"), 1);
        DUE.is("no men", x.count(1), 0);
        Due.read(x, "01+1;c9+");
        DUE.is("a chaplain", x.at(0, 0), 4);
        Due.read(x, "01+19;p9+@7");
        DUE.is("what stood behind is not read", Due.read(x, "01+1"), 1);
        DUE.is("nor its digit", x.of(0, 3), 1);
        DUE.is("nor its men", x.count(1), 0);
    }

    private static void faultChangesNothing() {
        RiddlePrison x = Due.prison("01+4;p5+,w3?@1");
        x.attempt(0, 0);
        x.whisper(1, 0);
        DUE.is("read", Due.read(x, "23?1,34=1;c0+,c0+,c0+,c0"), -44);
        DUE.is("doors", x.count(0), 1);
        DUE.is("men", x.count(1), 2);
        DUE.is("undoable", x.count(5), 2);
        DUE.is("first cell", x.of(0, 0), 0);
        DUE.is("hard", x.of(0, 3), 4);
        DUE.is("kind", x.at(1, 0), 2);
        DUE.is("knows", x.at(1, 4), 1);
        DUE.is("undo", x.undo(), 1);
        DUE.is("undo", x.undo(), 0);
        DUE.is("cell", x.at(0, 3), 0);
    }
}
