/** Tests that each stand for one sentence of the document, which they quote. */
abstract class Edges {
    static final int BAD = RiddlePrison.BAD;
    static final int NOT = RiddlePrison.NOT;
    static final int FULL = RiddlePrison.FULL;
    static final int NONE = RiddlePrison.NONE;
    static final int NULL = RiddlePrison.NULL;
    static final int CAST = RiddlePrison.CAST;
    static final int INDEX = RiddlePrison.INDEX;
    static final int SIZE = RiddlePrison.SIZE;
    static final int LEAST = Integer.MIN_VALUE;
    static final int MOST = Integer.MAX_VALUE;
    static final String TEN_DOORS = "01+1,01+1,01+1,01+1,01+1,01+1,01+1,01+1,01+1,01+1";
    static final String FOUR_MEN = "p0+,p0+,p0+,p0+";
    /** A plain man of wit w passes the first w of these doors. */
    private static final String LADDER = "01+1,01+2,01+3,01+4,01+5,01+6,01+7,01+8,01+9,01+10;p0+";

    private final Due due;
    private final Document document;
    private String sentence = "";
    private int asked = 1;

    Edges(Due due, Document document) {
        this.due = due;
        this.document = document;
    }

    abstract void all();

    final void terms(String quote) {
        promise(0, quote);
    }

    final void promise(int number, String quote) {
        finish();
        asked = 0;
        sentence = Document.name(number) + ", '" + quote + "'";
        due.holds(sentence + " stands in the document", document.says(number, quote));
    }

    /** A quote is no test: answers must follow it. */
    final void finish() {
        due.holds(sentence + " has a test of its own", asked > 0);
    }

    final void is(String call, long got, long want) {
        asked++;
        due.is(sentence + ": " + call, got, want);
    }

    final void same(String what, String got, String want) {
        asked++;
        due.holds(sentence + ": " + what + " was " + want + ", is " + got, got.equals(want));
    }

    /** All that the object tells of its doors and men, of THE DRAW and of what may be UNDONE. */
    static String look(RiddlePrison x) {
        StringBuilder seen = new StringBuilder();
        for (int what = 0; what < 6; what++) {
            seen.append(x.count(what)).append(' ');
        }
        int doors = x.count(0);
        int men = x.count(1);
        for (int d = 0; d < doors; d++) {
            for (int what = 0; what < 6; what++) {
                seen.append(x.of(d, what)).append(' ');
            }
        }
        for (int m = 0; m < men; m++) {
            for (int what = 0; what < 7; what++) {
                seen.append(x.at(m, what)).append(' ');
            }
        }
        int draw = x.seed(0);
        x.seed(draw);
        return seen.append(draw).toString();
    }

    /** The items of a sheet, those that are not 0 .. 9 as x; sheet 3 is spoilt, another PRISON stands then. */
    static String items(RiddlePrison x, int sheet, int lane, int n) {
        Due.read(x, LADDER);
        x.sheet(3, lane, 2);
        x.item(3, lane, 1, 1);
        StringBuilder seen = new StringBuilder();
        for (int k = 0; k < n; k++) {
            if (x.copy(sheet, k, 3, 0, 1) != 1) {
                return "none";
            }
            int wits = x.heard(0, 3, lane, 0, 1, 1);
            seen.append(wits < 0 ? "x" : String.valueOf(9 - Integer.bitCount(wits)));
        }
        return seen.toString();
    }

    /** A new sheet with these items. */
    static void write(RiddlePrison x, int sheet, int lane, long... items) {
        x.sheet(sheet, lane, items.length);
        for (int k = 0; k < items.length; k++) {
            x.item(sheet, lane, k, items[k]);
        }
    }

    /** A man comes to have failed so often at a door that is too hard for him. */
    static void fail(RiddlePrison x, int man, int door, int times) {
        for (int k = 0; k < times; k++) {
            x.attempt(man, door);
        }
    }
}
