/** Promises 30 to 35: heard, film, sheet, drop, item, copy. */
public final class SheetsTest {
    private static final int BAD = RiddlePrison.BAD;
    private static final int NOT = RiddlePrison.NOT;
    private static final int NULL = RiddlePrison.NULL;
    private static final int CAST = RiddlePrison.CAST;
    private static final int INDEX = RiddlePrison.INDEX;
    private static final Due DUE = new Due();

    public static void main(String[] args) {
        rows();
        items();
        lowestBits();
        copies();
        heardKinds();
        heardWits();
        heardRefuses();
        films();
        DUE.end();
    }

    private static void rows() {
        RiddlePrison x = new RiddlePrison();
        DUE.is("nothing yet", x.drop(3), NULL);
        DUE.is("row", x.sheet(3, 1, 24), 24);
        DUE.is("row of none", x.sheet(2, 0, 0), 0);
        DUE.is("too long", x.sheet(0, 0, 25), BAD);
        DUE.is("below 0", x.sheet(0, 0, -1), RiddlePrison.SIZE);
        DUE.is("below 0", x.sheet(0, 0, Integer.MIN_VALUE), RiddlePrison.SIZE);
        DUE.is("bad ahead of size", x.sheet(4, 0, -1), BAD);
        DUE.is("bad ahead of size", x.sheet(0, 4, -1), BAD);
        DUE.is("no such sheet", x.sheet(-1, 0, 1), BAD);
        DUE.is("no such lane", x.sheet(0, -1, 1), BAD);
        DUE.is("nothing by these", x.drop(0), NULL);
        DUE.is("drop", x.drop(3), 24);
        DUE.is("drop again", x.drop(3), NULL);
        DUE.is("drop a row of none", x.drop(2), 0);
        DUE.is("no such sheet", x.drop(4), BAD);
        DUE.is("no such sheet", x.drop(-1), BAD);
        x.sheet(1, 2, 7);
        DUE.is("refused: the row stays", x.sheet(1, 0, -1), RiddlePrison.SIZE);
        DUE.is("its lane stays", x.item(1, 2, 6, 1), 1);
        DUE.is("a new row in its place", x.sheet(1, 3, 4), 4);
        DUE.is("drop", x.drop(1), 4);
    }

    private static void items() {
        RiddlePrison x = new RiddlePrison();
        x.sheet(0, 2, 3);
        DUE.is("first", x.item(0, 2, 0, 5), 1);
        DUE.is("last", x.item(0, 2, 2, Long.MAX_VALUE), 1);
        DUE.is("behind", x.item(0, 2, 3, 5), INDEX);
        DUE.is("ahead", x.item(0, 2, -1, 5), INDEX);
        DUE.is("far", x.item(0, 2, Integer.MAX_VALUE, 5), INDEX);
        DUE.is("far", x.item(0, 2, Integer.MIN_VALUE, 5), INDEX);
        DUE.is("cast ahead of index", x.item(0, 3, 99, 5), CAST);
        DUE.is("null ahead of cast", x.item(1, 3, 99, 5), NULL);
        DUE.is("bad ahead of null", x.item(1, 4, 99, 5), BAD);
        DUE.is("no such sheet", x.item(4, 0, 0, 5), BAD);
        DUE.is("no such sheet", x.item(-1, 0, 0, 5), BAD);
        DUE.is("no such lane", x.item(0, -1, 0, 5), BAD);
    }

    /** Whether an item is 0 or 1 after it was cut to its lane is told by heard. */
    private static void lowestBits() {
        int[] bits = {8, 16, 32, 64};
        for (int lane = 0; lane < 4; lane++) {
            RiddlePrison x = Due.prison("01+5;p5+");
            x.sheet(0, lane, 2);
            DUE.is("new rows hold 0", x.heard(0, 0, lane, 0, 1, 1), 0b11111);
            x.item(0, lane, 1, lane == 3 ? 1 : (1L << bits[lane]) + 1);
            DUE.is("lowest bits", x.heard(0, 0, lane, 0, 1, 1), 0b1111100000);
            x.item(0, lane, 1, (1L << bits[lane] - 1) + 1);
            DUE.is("the highest bit counts", x.heard(0, 0, lane, 0, 1, 1), NOT);
            x.item(0, lane, 1, -1);
            DUE.is("below 0", x.heard(0, 0, lane, 0, 1, 1), NOT);
            x.sheet(0, lane, 2);
            DUE.is("a new row holds 0 again", x.heard(0, 0, lane, 0, 1, 1), 0b11111);
        }
    }

    private static void copies() {
        RiddlePrison x = Due.prison("01+1,12+2,23+3,34+4;p0+");
        x.sheet(0, 0, 8);
        x.sheet(1, 0, 4);
        x.sheet(2, 1, 4);
        DUE.is("whole", x.copy(1, 0, 0, 4, 4), 4);
        DUE.is("none", x.copy(1, 4, 0, 8, 0), 0);
        DUE.is("behind", x.copy(1, 1, 0, 0, 4), INDEX);
        DUE.is("behind", x.copy(1, 0, 0, 5, 4), INDEX);
        DUE.is("ahead", x.copy(1, -1, 0, 0, 1), INDEX);
        DUE.is("ahead", x.copy(1, 0, 0, -1, 1), INDEX);
        DUE.is("fewer than none", x.copy(1, 0, 0, 0, -1), INDEX);
        DUE.is("very many", x.copy(1, 2, 0, 2, Integer.MAX_VALUE), INDEX);
        DUE.is("very far", x.copy(1, Integer.MAX_VALUE, 0, 0, 1), INDEX);
        DUE.is("very far", x.copy(1, 0, 0, Integer.MAX_VALUE, 1), INDEX);
        DUE.is("very few", x.copy(1, 0, 0, 0, Integer.MIN_VALUE), INDEX);
        DUE.is("none, but behind", x.copy(1, 5, 0, 0, 0), INDEX);
        DUE.is("unlike lanes", x.copy(2, 9, 0, 0, 1), CAST);
        DUE.is("nothing there", x.copy(3, 0, 2, 9, 1), NULL);
        DUE.is("nothing there", x.copy(2, 9, 3, 0, 1), NULL);
        DUE.is("bad ahead of null", x.copy(3, 0, 4, 0, 1), BAD);
        DUE.is("bad ahead of null", x.copy(-1, 0, 3, 0, 1), BAD);
        overlapping();
    }

    /** Pairs that tell one way through the doors 0, 1, 2 and no other. */
    private static void overlapping() {
        RiddlePrison x = Due.prison("01+1,12+2,23+3;p5+");
        x.sheet(0, 3, 8);
        long[] pairs = {0, 1, 1, 1, 2, 1};
        for (int k = 0; k < 6; k++) {
            x.item(0, 3, k, pairs[k]);
        }
        DUE.is("as told", x.heard(0, 0, 3, 0, 3, 1), 0b1111111000);
        DUE.is("onto itself, later", x.copy(0, 0, 0, 2, 6), 6);
        DUE.is("as told", x.heard(0, 0, 3, 2, 3, 1), 0b1111111000);
        DUE.is("and earlier", x.copy(0, 2, 0, 1, 6), 6);
        DUE.is("as told", x.heard(0, 0, 3, 1, 3, 1), 0b1111111000);
        x.sheet(1, 3, 6);
        DUE.is("to another", x.copy(0, 1, 1, 0, 6), 6);
        DUE.is("as told", x.heard(0, 1, 3, 0, 3, 1), 0b1111111000);
        DUE.is("the source stays", x.heard(0, 0, 3, 1, 3, 1), 0b1111111000);
    }

    private static RiddlePrison telling(String text, int... pairs) {
        RiddlePrison x = Due.prison(text);
        x.sheet(0, 2, pairs.length);
        for (int k = 0; k < pairs.length; k++) {
            x.item(0, 2, k, pairs[k]);
        }
        return x;
    }

    private static void heardKinds() {
        DUE.is("a warder, a chaplain", telling("10+7;p5?@1", 0, 1).heard(0, 0, 2, 0, 1, 0), 0b10100);
        DUE.is("a chaplain, by failing", telling("01+6;p5?", 0, 0, 0, 1).heard(0, 0, 2, 0, 2, 0), 0b10000);
        DUE.is("not a punster", telling("01+1;p5?", 0, 1).heard(0, 0, 2, 0, 1, 0), 0b10111);
        DUE.is("a scholar, a punster", telling("01?8;c5?", 0, 1).heard(0, 0, 2, 0, 1, 0), 0b01010);
        DUE.is("nobody", telling("01?8;c0?", 0, 1).heard(0, 0, 2, 0, 1, 0), 0);
        DUE.is("another cell: all fail", telling("12?1;c9?", 0, 0).heard(0, 0, 2, 0, 1, 0), 0b11111);
        DUE.is("another cell: nobody passes", telling("12?1;c9?", 0, 1).heard(0, 0, 2, 0, 1, 0), 0);
        DUE.is("to fail at another cell's door counts for nothing",
            telling("01+6,23+1;p5?", 1, 0, 0, 1).heard(0, 0, 2, 0, 2, 0), 0);
        RiddlePrison knowing = telling("01+19;p0?", 0, 1);
        knowing.whisper(0, 0);
        DUE.is("one who knows", knowing.heard(0, 0, 2, 0, 1, 0), 0b11111);
        DUE.is("nothing is changed", knowing.at(0, 3), 0);
    }

    private static void heardWits() {
        RiddlePrison x = telling("01+4,12+7;p0+", 0, 1, 1, 0, 0, 1, 0, 1);
        DUE.is("4 to 6", x.heard(0, 0, 2, 0, 4, 1), 0b1110000);
        DUE.is("4 or more", x.heard(0, 0, 2, 0, 1, 1), 0b1111110000);
        DUE.is("from item 2 on: not of his cell", x.heard(0, 0, 2, 2, 1, 1), 0b1111111111);
        DUE.is("from item 4 on: there and back", x.heard(0, 0, 2, 4, 2, 1), 0b1111110000);
        RiddlePrison chaplain = telling("01+9;c0+", 0, 0, 0, 0, 0, 1);
        DUE.is("a chaplain who failed twice", chaplain.heard(0, 0, 2, 0, 3, 1), 0b10000000);
        chaplain.attempt(0, 0);
        DUE.is("and once ahead", chaplain.heard(0, 0, 2, 0, 3, 1), 0b1000000);
        DUE.is("nothing is changed", chaplain.at(0, 5), 1);
        DUE.is("nothing to be undone", chaplain.count(5), 1);
    }

    private static void heardRefuses() {
        RiddlePrison x = telling("01+4;p0+", 0, 1, 0, 1, 1, 1, 0, 2, -1, 0, 0, -1);
        DUE.is("no such door", x.heard(0, 0, 2, 4, 1, 0), NOT);
        DUE.is("no such door, though no kind fits ahead", x.heard(0, 0, 2, 0, 3, 0), NOT);
        DUE.is("not 0, 1", x.heard(0, 0, 2, 6, 1, 0), NOT);
        DUE.is("a door below 0", x.heard(0, 0, 2, 8, 1, 0), NOT);
        DUE.is("below 0", x.heard(0, 0, 2, 10, 1, 0), NOT);
        DUE.is("behind", x.heard(0, 0, 2, 11, 1, 0), INDEX);
        DUE.is("index ahead of not", x.heard(0, 0, 2, 1, 6, 0), INDEX);
        DUE.is("ahead", x.heard(0, 0, 2, -1, 1, 0), INDEX);
        DUE.is("far", x.heard(0, 0, 2, Integer.MAX_VALUE, 8, 0), INDEX);
        DUE.is("cast ahead of index", x.heard(0, 0, 1, 99, 1, 0), CAST);
        DUE.is("null ahead of cast", x.heard(0, 1, 1, 99, 1, 0), NULL);
        int[][] bad = {{-1, 1, 2, 0, 1, 0}, {1, 1, 2, 0, 1, 0}, {0, -1, 2, 0, 1, 0}, {0, 4, 2, 0, 1, 0},
            {0, 1, -1, 0, 1, 0}, {0, 1, 4, 0, 1, 0}, {0, 1, 2, 0, 0, 0}, {0, 1, 2, 0, 9, 0}, {0, 1, 2, 0, 1, -1},
            {0, 1, 2, 0, 1, 2}, {0, 1, 2, 0, Integer.MIN_VALUE, 0}};
        for (int[] r : bad) {
            DUE.is("bad ahead of null", x.heard(r[0], r[1], r[2], r[3], r[4], r[5]), BAD);
        }
        x.sheet(3, 3, 16);
        x.item(3, 3, 0, 1L << 32);
        DUE.is("a long door is no door", x.heard(0, 3, 3, 0, 8, 0), NOT);
        x.item(3, 3, 0, 0);
        DUE.is("eight pairs", x.heard(0, 3, 3, 0, 8, 1), 0b1111);
    }

    /** Lengths are told by heard: a 0, 1 or 2 there is a door or an outcome, a -4 is none. */
    private static void films() {
        for (int lane = 0; lane < 4; lane++) {
            RiddlePrison x = Due.prison("01+1,12+9;p1+,p0+@3");
            x.sheet(0, lane, 8);
            DUE.is("film", x.film(0, 2, 0, lane, 6), 2);
            DUE.is("0 and 1 stand there", x.heard(0, 0, lane, 6, 1, 1), 0b1111111110);
            DUE.is("all around stays", x.heard(0, 0, lane, 0, 3, 1), 1);
            DUE.is("film", x.film(0, 8, 0, lane, 0), 8);
            DUE.is("from 0 on", x.heard(0, 0, lane, 0, 1, 1), 0b1111111110);
            DUE.is("none", x.heard(0, 0, lane, 2, 1, 1), NOT);
            DUE.is("film of another", x.film(1, 8, 0, lane, 0), 8);
            DUE.is("none", x.heard(0, 0, lane, 0, 1, 1), NOT);
            x.sheet(0, lane, 8);
            DUE.is("behind", x.film(0, 8, 0, lane, 1), INDEX);
            DUE.is("behind", x.film(0, 1, 0, lane, 8), INDEX);
            DUE.is("ahead", x.film(0, 1, 0, lane, -1), INDEX);
            DUE.is("far", x.film(0, 8, 0, lane, Integer.MAX_VALUE), INDEX);
            DUE.is("refused: nothing stands there", x.heard(0, 0, lane, 0, 4, 1), 1);
            DUE.is("cast ahead of index", x.film(0, 8, 0, (lane + 1) % 4, 99), CAST);
            DUE.is("null ahead of cast", x.film(0, 8, 1, lane, 99), NULL);
            int[][] bad = {{2, 1, 1, 0}, {-1, 1, 1, 0}, {0, 0, 1, 0}, {0, 9, 1, 0}, {0, 1, 4, 0}, {0, 1, -1, 0},
                {0, 1, 1, 4}, {0, 1, 1, -1}};
            for (int[] r : bad) {
                DUE.is("bad ahead of null", x.film(r[0], r[1], r[2], r[3], 0), BAD);
            }
        }
    }
}
