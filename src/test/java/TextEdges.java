/** The document's Terms, part 3: prisons as texts, and their faults. */
final class TextEdges extends Edges {
    TextEdges(Due due, Document document) {
        super(due, document);
    }

    @Override
    void all() {
        doorsOfText();
        partsOfDoor();
        menOfText();
        partsOfMan();
        inPlaceOfAll();
        digits();
        faults();
        theEnd();
        blanks();
    }

    private void readIs(String text, int want) {
        is("'" + text + "'", Due.read(new RiddlePrison(), text), want);
    }

    private void doorsOfText() {
        terms("A PRISON is a TEXT: 1 to 10 DOORS with , between:");
        readIs("", -20);
        readIs(";p0+", -20);
        readIs(",", -20);
        readIs("01+1", 1);
        readIs("01+1,12+1", 2);
        readIs("01+1,", -25);
        readIs("01+1,,12+1", -25);
        readIs("01+112+1", -25);
        readIs(TEN_DOORS, 10);
        readIs(TEN_DOORS + ",", -69);
        readIs(TEN_DOORS + ",01+1", -69);
        readIs(TEN_DOORS + " ,01+1", -70);
    }

    private void partsOfDoor() {
        terms("two unlike digits 0 .. 7 (CELLS), one of + ? = & (SUMS, PUNS, KIN, WEIGHTS), a number 1 .. 19 (HARD);");
        readIs("07+1", 1);
        readIs("70+1", 1);
        readIs("80+1", -20);
        readIs("90+1", -20);
        readIs("08+1", -21);
        readIs("77+1", -21);
        readIs("0+1", -21);
        readIs("012+1", -22);
        readIs("01-1", -22);
        readIs("01++1", -23);
        readIs("01+0", -23);
        readIs("01+-1", -23);
        readIs("01+1", 1);
        readIs("01+9", 1);
        readIs("01+10", 1);
        readIs("01+19", 1);
        readIs("01+20", -23);
        readIs("01+99", -23);
        RiddlePrison x = Due.prison("07+1,70?9,12=10,21&19");
        int[][] want = {{0, 7, 0, 1}, {7, 0, 1, 9}, {1, 2, 2, 10}, {2, 1, 3, 19}};
        for (int d = 0; d < 4; d++) {
            for (int what = 0; what < 4; what++) {
                is("of " + d + " " + what, x.of(d, what), want[d][what]);
            }
        }
    }

    private void menOfText() {
        terms("then perhaps ; and 1 to 4 men with , between:");
        readIs("01+1;", -25);
        readIs("01+1;;p0+", -25);
        readIs("01+1;,p0+", -25);
        readIs("01+1,p0+", -25);
        readIs("01+1;p0+", 1);
        readIs("01+1;p0+,", -29);
        readIs("01+1;p0+;", -28);
        readIs("01+1;p0+p0+", -28);
        readIs("01+1;" + FOUR_MEN, 1);
        readIs("01+1;" + FOUR_MEN + ",", -40);
        readIs("01+1;" + FOUR_MEN + ",p0+", -40);
        readIs("01+1;p0+,12+1", -29);
        RiddlePrison x = Due.prison("01+1");
        is("without men", x.count(1), 0);
        Due.read(x, "01+1;" + FOUR_MEN);
        is("four", x.count(1), 4);
    }

    private void partsOfMan() {
        terms("p s w u c (PLAIN, SCHOLAR, WARDER, PUNSTER, CHAPLAIN), a digit (WIT), one of + ? = & (his own SORT), "
            + "then perhaps @ and a digit 0 .. 7 (his CELL; else 0):");
        RiddlePrison x = Due.prison("01+1;p0+,s9?@0,w1=@7,u8&@1");
        int[][] want = {{0, 0, 0, 0}, {1, 9, 1, 0}, {2, 1, 2, 7}, {3, 8, 3, 1}};
        for (int m = 0; m < 4; m++) {
            for (int what = 0; what < 4; what++) {
                is("at " + m + " " + what, x.at(m, what), want[m][what]);
            }
        }
        Due.read(x, "01+1;c5&");
        is("a chaplain", x.at(0, 0), 4);
        is("else 0, not where another one was", x.at(0, 3), 0);
        readIs("01+1;x0+", -25);
        readIs("01+1;P0+", -25);
        readIs("01+1;pp+", -26);
        readIs("01+1;p+", -26);
        readIs("01+1;p00+", -27);
        readIs("01+1;p10+", -27);
        readIs("01+1;p0-", -27);
        readIs("01+1;p0++", -28);
        readIs("01+1;p0+0", -28);
        readIs("01+1;p0+@", -29);
        readIs("01+1;p0+@8", -29);
        readIs("01+1;p0+@@", -29);
        readIs("01+1;p0+@00", -30);
        readIs("01+1;p0+@7,s1?", 1);
    }

    private void inPlaceOfAll() {
        terms("in place of all (THE DRAW stays).");
        RiddlePrison x = Due.prison(TEN_DOORS + ";c0&@3,c0&@4,c0&@5,c0&@6");
        x.seed(123);
        x.whisper(0, 0);
        x.set(0, 3, 7);
        Due.read(x, "67?2;s1=@7");
        same("all", look(x), "1 1 2 0 128 0 6 7 1 2 0 0 1 1 2 7 0 0 0 123");
        RiddlePrison failed = Due.prison("01+19;p0+");
        fail(failed, 0, 0, 3);
        failed.whisper(0, 0);
        Due.read(failed, "01+19;p0+");
        same("nobody failed or knows", look(failed), "1 1 19 0 1 0 0 1 0 19 0 0 0 0 0 0 0 0 0 1");
    }

    private void digits() {
        terms("Numbers have 1 or 2 digits (a third one can't stand there).");
        readIs("01+1", 1);
        readIs("01+01", 1);
        readIs("01+11", 1);
        readIs("01+011", -25);
        readIs("01+110", -25);
        readIs("01+111,", -25);
        readIs("01+001", -23);
        is("01 is 1", Due.prison("01+01").of(0, 3), 1);
        is("09 is 9", Due.prison("01+09").of(0, 3), 9);
    }

    private void faults() {
        terms("FAULTS: -20 less the place of the first letter (behind blanks) that can't stand there, or of the number's "
            + "first digit, if it is not as told");
        readIs("x", -20);
        readIs("  x", -22);
        readIs("0  0+1", -23);
        readIs("01+0", -23);
        readIs("01+ 0", -24);
        readIs("01+  20", -25);
        readIs("01+20x", -23);
        readIs("01+1,12+00", -28);
        readIs("01+1,12+  20,99", -30);
        readIs("01+1  x", -26);
        readIs("01+1;p0+  x", -30);
        readIs("00+0;x", -21);
    }

    private void theEnd() {
        terms("(the end: how many there are);");
        String whole = "01+1;p0+@7";
        int[] want = {-20, -21, -22, -23, 1, -25, -26, -27, 1, -29, 1};
        for (int k = 0; k <= whole.length(); k++) {
            readIs(whole.substring(0, k), want[k]);
        }
        readIs(" ", -21);
        readIs("01+ ", -24);
        StringBuilder blanks = new StringBuilder();
        for (int k = 0; k < 90; k++) {
            blanks.append(' ');
        }
        readIs(blanks.toString(), -110);
        readIs(blanks.substring(0, 86) + "01+1", 1);
        readIs(blanks.substring(0, 86) + "01+0", -109);
        readIs(blanks.substring(0, 87) + "01+", -110);
        readIs("01+1" + blanks.substring(0, 86), 1);
        readIs("01+1" + blanks.substring(0, 85) + ",", -110);
        readIs("01+1" + blanks.substring(0, 85) + ".", -109);
    }

    private void blanks() {
        terms("blanks count for nothing, but end a number.");
        readIs(" 0 1 + 19 , 1 2 ? 1 ; p 0 + @ 7 , s 9 & ", 2);
        readIs("01+1 9", -25);
        readIs("01+1  9", -26);
        readIs("01+0 1", -23);
        readIs("01+1 ,12+1", 2);
        readIs("01+1;" + FOUR_MEN + "  ", 1);
        readIs("01+1;" + FOUR_MEN + "@7  ", 1);
        readIs("01+1;" + FOUR_MEN + "@7  x", -44);
        readIs(TEN_DOORS + "  ", 10);
        readIs(TEN_DOORS + "  ;  p0+", 10);
        RiddlePrison x = Due.prison("  0  7  +  1  ;  w  3  =  @  5  ");
        same("all", look(x), "1 1 1 0 32 0 0 7 0 1 0 0 2 3 2 5 0 0 0 1");
        is("a tab is no letter of a tape", x.type(9), BAD);
    }
}
