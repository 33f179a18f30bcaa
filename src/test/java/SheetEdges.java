/** Promises 30 to 35, but for where they say BAD. */
final class SheetEdges extends Edges {
    private static final int[] BITS = {8, 16, 32, 64};

    SheetEdges(Due due, Document document) {
        super(due, document);
    }

    @Override
    void all() {
        heard();
        heardMachine();
        heardNot();
        film();
        filmMachine();
        sheet();
        drop();
        item();
        itemMachine();
        copy();
        copyMachine();
    }

    private void heard() {
        promise(30, "HEARD of a man by n pairs, two items each of a SHEET taken as a row of a LANE, from item i on: "
            + "KINDS (what 0), WITS (1).");
        for (int lane = 0; lane < 4; lane++) {
            RiddlePrison x = Due.prison("01?6,12?4;p5+@1");
            long[] pairs = new long[24];
            pairs[21] = 1;
            pairs[22] = 1;
            pairs[23] = 1;
            write(x, 3, lane, pairs);
            is("kinds by the last pair", x.heard(0, 3, lane, 22, 1, 0), 0b11111);
            is("wits by the last pair", x.heard(0, 3, lane, 22, 1, 1), 0b1111110000);
            is("from an odd item on", x.heard(0, 3, lane, 21, 1, 0), 0b11111);
            is("kinds by the last but one", x.heard(0, 3, lane, 20, 1, 0), 0b10100);
            is("wits by the last but one", x.heard(0, 3, lane, 20, 1, 1), 0b1111000000);
            is("eight from the first on", x.heard(0, 3, lane, 0, 8, 1), 0b111111);
            is("eight up to the last", x.heard(0, 3, lane, 8, 8, 0), 0);
        }
    }

    private void heardMachine() {
        RiddlePrison x = Due.prison("01?9;p5+");
        x.sheet(0, 2, 4);
        promise(30, "NULL;");
        is("nothing there", x.heard(0, 1, 2, 0, 1, 0), NULL);
        x.sheet(1, 2, 2);
        x.drop(1);
        is("nothing any more", x.heard(0, 1, 2, 0, 1, 0), NULL);
        promise(30, "CAST;");
        for (int lane : new int[] {0, 1, 3}) {
            is("lane " + lane, x.heard(0, 0, lane, 0, 1, 0), CAST);
        }
        promise(30, "INDEX;");
        is("two pairs fit", x.heard(0, 0, 2, 0, 2, 0), 0b11111);
        is("three do not", x.heard(0, 0, 2, 0, 3, 0), INDEX);
        is("the last pair", x.heard(0, 0, 2, 2, 1, 0), 0b11111);
        is("half a pair", x.heard(0, 0, 2, 3, 1, 0), INDEX);
        is("behind the last", x.heard(0, 0, 2, 4, 1, 0), INDEX);
        for (int i : new int[] {-1, LEAST, MOST, MOST - 1, LEAST + 1}) {
            is("from " + i, x.heard(0, 0, 2, i, 1, 0), INDEX);
            is("from " + i, x.heard(0, 0, 2, i, 8, 0), INDEX);
        }
        x.sheet(2, 2, 0);
        is("an empty row", x.heard(0, 2, 2, 0, 1, 0), INDEX);
    }

    private void heardNot() {
        promise(30, "NOT: there is no such DOOR, it is not 0, 1.");
        RiddlePrison x = Due.prison("01?6,12?4;p5+");
        long[][] rows = {{2, 0}, {10, 0}, {-1, 0}, {Long.MIN_VALUE, 0}, {Long.MAX_VALUE, 0}, {1L << 32, 0}, {256, 0},
            {0, 2}, {0, -1}, {0, Long.MIN_VALUE}, {0, Long.MAX_VALUE}, {0, 1L << 32}, {0, (1L << 32) + 1}, {0, 256}};
        for (long[] row : rows) {
            write(x, 0, 3, 0, 0, row[0], row[1]);
            is("pair " + row[0] + ", " + row[1], x.heard(0, 0, 3, 2, 1, 0), NOT);
            is("behind another pair", x.heard(0, 0, 3, 0, 2, 1), NOT);
            is("not if it is not told", x.heard(0, 0, 3, 0, 1, 0), 0b11111);
        }
        write(x, 0, 3, 0, 1, 7, 0);
        is("though no kind fits ahead of it", x.heard(0, 0, 3, 0, 2, 0), NOT);
        is("the last door, 1", lastDoor(x), 0);
    }

    private static int lastDoor(RiddlePrison x) {
        write(x, 0, 3, 1, 1);
        return x.heard(0, 0, 3, 0, 1, 0);
    }

    private void film() {
        promise(31, "How many DOORS the WAY of a man to CELLS 0 to n less 1 (n 1 .. 8) has (-4: none), an item each, "
            + "comes to a SHEET likewise: n.");
        String chain = "01+1,12+1,23+1,34+1,45+1,56+1,67+1;p1+,p0+@1";
        for (int lane = 0; lane < 4; lane++) {
            RiddlePrison x = Due.prison(chain);
            write(x, 0, lane, 9, 9, 9, 9, 9, 9, 9, 9, 9, 9);
            is("all", x.film(0, 8, 0, lane, 1), 8);
            same("items", items(x, 0, lane, 10), "9012345679");
            RiddlePrison y = Due.prison(chain);
            write(y, 0, lane, 9, 9, 9);
            is("one", y.film(0, 1, 0, lane, 2), 1);
            same("items", items(y, 0, lane, 3), "990");
            RiddlePrison z = Due.prison(chain);
            write(z, 0, lane, 9, 9, 9, 9);
            is("none but his own", z.film(1, 3, 0, lane, 0), 3);
            same("items", items(z, 0, lane, 4), "x0x9");
        }
    }

    private void filmMachine() {
        RiddlePrison x = Due.prison("01+1;p1+");
        x.sheet(0, 2, 24);
        promise(31, "NULL;");
        is("nothing there", x.film(0, 1, 1, 2, 0), NULL);
        promise(31, "CAST;");
        for (int lane : new int[] {0, 1, 3}) {
            is("lane " + lane, x.film(0, 1, 0, lane, 0), CAST);
        }
        promise(31, "INDEX.");
        is("up to the last", x.film(0, 8, 0, 2, 16), 8);
        is("behind it", x.film(0, 8, 0, 2, 17), INDEX);
        is("the last", x.film(0, 1, 0, 2, 23), 1);
        is("behind it", x.film(0, 1, 0, 2, 24), INDEX);
        for (int i : new int[] {-1, LEAST, MOST, MOST - 7}) {
            is("from " + i, x.film(0, 8, 0, 2, i), INDEX);
            is("from " + i, x.film(0, 1, 0, 2, i), INDEX);
        }
        x.sheet(0, 2, 0);
        is("an empty row", x.film(0, 1, 0, 2, 0), INDEX);
        write(x, 0, 2, 5, 6, 7);
        is("the first ones would fit", x.film(0, 4, 0, 2, 0), INDEX);
        same("but nothing comes there", items(x, 0, 2, 3), "567");
    }

    private void sheet() {
        promise(32, "A SHEET holds a new row of a LANE: n.");
        RiddlePrison x = new RiddlePrison();
        for (int n = 0; n <= 24; n++) {
            is("row", x.sheet(n % 4, n / 4 % 4, n), n);
            is("as long", x.drop(n % 4), n);
        }
        write(x, 0, 1, 5, 6, 7);
        is("in place of the other", x.sheet(0, 1, 3), 3);
        same("items", items(x, 0, 1, 3), "000");
        is("of another lane", x.sheet(0, 2, 5), 5);
        is("not of the lane ahead", x.item(0, 1, 0, 0), CAST);
        is("as long", x.drop(0), 5);
        write(x, 0, 3, 1, 2, 3, 4, 5, 6, 7, 8);
        x.sheet(0, 3, 2);
        x.drop(0);
        is("once more", x.sheet(0, 3, 8), 8);
        same("nothing of what was", items(x, 0, 3, 8), "00000000");
        promise(32, "SIZE: n below 0.");
        is("below 0", x.sheet(1, 0, -1), SIZE);
        is("far below 0", x.sheet(1, 3, LEAST), SIZE);
        is("no row by it", x.drop(1), NULL);
        is("the row that was stays", x.sheet(0, 0, -1), SIZE);
        is("as long", x.drop(0), 8);
    }

    private void drop() {
        promise(33, "A SHEET holds nothing: how many items it had.");
        RiddlePrison x = new RiddlePrison();
        x.sheet(0, 0, 0);
        x.sheet(1, 1, 24);
        x.sheet(2, 2, 7);
        is("none", x.drop(0), 0);
        is("most", x.drop(1), 24);
        is("nothing to write to", x.item(1, 1, 0, 0), NULL);
        promise(33, "NULL.");
        is("nothing at first", x.drop(3), NULL);
        is("nothing any more", x.drop(0), NULL);
        is("nothing any more", x.drop(1), NULL);
        is("the other one", x.drop(2), 7);
    }

    private void item() {
        promise(34, "Item i of a SHEET, taken as a row of a LANE, becomes v, its lowest bits: 1.");
        for (int lane = 0; lane < 4; lane++) {
            RiddlePrison x = new RiddlePrison();
            long past = lane == 3 ? 0 : 1L << BITS[lane];
            long half = 1L << BITS[lane] - 1;
            long[] told = {5, past + 6, 7 - past, half, half - 1, past - 1, -1, -past, half + 8, Long.MIN_VALUE + 9};
            x.sheet(0, lane, told.length);
            for (int k = 0; k < told.length; k++) {
                is("item", x.item(0, lane, k, told[k]), 1);
            }
            same("items of lane " + lane, items(x, 0, lane, told.length),
                lane == 3 ? "567xxxx0xx" : "567xxxx0x9");
        }
    }

    private void itemMachine() {
        RiddlePrison x = new RiddlePrison();
        promise(34, "NULL;");
        is("nothing there", x.item(0, 0, 0, 0), NULL);
        x.sheet(0, 1, 24);
        promise(34, "CAST;");
        for (int lane : new int[] {0, 2, 3}) {
            is("lane " + lane, x.item(0, lane, 0, 0), CAST);
        }
        promise(34, "INDEX.");
        is("the first", x.item(0, 1, 0, 1), 1);
        is("the last", x.item(0, 1, 23, 1), 1);
        for (int i : new int[] {-1, 24, LEAST, MOST}) {
            is("item " + i, x.item(0, 1, i, 0), INDEX);
        }
        x.sheet(0, 1, 0);
        is("an empty row", x.item(0, 1, 0, 0), INDEX);
    }

    private void copy() {
        promise(35, "n items of a SHEET from i on come to another one (or the same) from j on, as if all were taken "
            + "ahead: n.");
        copied(0, 0, 1, 0, 5, "12345");
        copied(1, 1, 1, 2, 3, "99234");
        copied(2, 4, 1, 4, 1, "99995");
        copied(3, 5, 1, 5, 0, "99999");
        copied(0, 0, 0, 1, 4, "11234");
        copied(1, 1, 0, 0, 4, "23455");
        copied(2, 0, 0, 2, 3, "12123");
        copied(3, 2, 0, 0, 3, "34545");
        copied(0, 2, 0, 2, 3, "12345");
        copied(1, 5, 0, 0, 0, "12345");
    }

    /** Sheet 0 has 1 to 5, sheet 1 has 9 everywhere; what stands in the one that is copied to is told. */
    private void copied(int lane, int i, int to, int j, int n, String want) {
        RiddlePrison x = new RiddlePrison();
        write(x, 0, lane, 1, 2, 3, 4, 5);
        write(x, 1, lane, 9, 9, 9, 9, 9);
        is("copy", x.copy(0, i, to, j, n), n);
        same("items", items(x, to, lane, 5), want);
        if (to != 0) {
            same("where they come from", items(x, 0, lane, 5), "12345");
        }
    }

    private void copyMachine() {
        RiddlePrison x = new RiddlePrison();
        write(x, 0, 2, 1, 2, 3);
        write(x, 1, 2, 4, 5, 6, 7, 8);
        x.sheet(2, 1, 5);
        promise(35, "NULL (either);");
        is("from nothing", x.copy(3, 0, 0, 0, 1), NULL);
        is("to nothing", x.copy(0, 0, 3, 0, 1), NULL);
        is("from nothing to nothing", x.copy(3, 0, 3, 0, 0), NULL);
        promise(35, "CAST: of unlike LANES;");
        is("unlike", x.copy(0, 0, 2, 0, 1), CAST);
        is("unlike", x.copy(2, 0, 0, 0, 0), CAST);
        promise(35, "INDEX.");
        is("all", x.copy(0, 0, 1, 2, 3), 3);
        is("behind the end of the first", x.copy(0, 0, 1, 0, 4), INDEX);
        is("behind the end of the first", x.copy(0, 1, 1, 0, 3), INDEX);
        is("behind the end of the other", x.copy(0, 0, 1, 3, 3), INDEX);
        is("behind the end of the other", x.copy(1, 0, 0, 0, 4), INDEX);
        is("none from the end on", x.copy(0, 3, 1, 5, 0), 0);
        is("none from behind the end on", x.copy(0, 4, 1, 0, 0), INDEX);
        is("none to behind the end", x.copy(0, 0, 1, 6, 0), INDEX);
        for (int off : new int[] {-1, LEAST, MOST}) {
            is("from " + off, x.copy(0, off, 1, 0, 1), INDEX);
            is("to " + off, x.copy(0, 0, 1, off, 1), INDEX);
            is(off + " items", x.copy(0, 0, 1, 0, off), INDEX);
            is("none from " + off, x.copy(0, off, 1, 0, 0), INDEX);
            is("all " + off, x.copy(0, off, 1, off, off), INDEX);
        }
        same("nothing else is changed", items(x, 1, 2, 5), "45123");
    }
}
