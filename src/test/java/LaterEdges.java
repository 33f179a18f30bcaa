/** The document's Terms, part 3: what is heard, undone, drifted. */
final class LaterEdges extends Edges {
    LaterEdges(Due due, Document document) {
        super(due, document);
    }

    @Override
    void all() {
        heard();
        heardFailed();
        heardFromNow();
        heardSets();
        undone();
        eightAreKnown();
        asAheadOfIt();
        nothingToBeUndone();
        draw();
        drawBecomes();
        whoTries();
        whichDoor();
        nobody();
        sheets();
        lanes();
    }

    private static RiddlePrison telling(String text, long... pairs) {
        RiddlePrison x = Due.prison(text);
        write(x, 0, 3, pairs);
        return x;
    }

    private void heardIs(String text, int kinds, int wits, long... pairs) {
        RiddlePrison x = telling(text, pairs);
        is(text + ", kinds", x.heard(0, 0, 3, 0, pairs.length / 2, 0), kinds);
        is(text + ", wits", x.heard(0, 0, 3, 0, pairs.length / 2, 1), wits);
    }

    private void heard() {
        terms("HEARD: a row tells n pairs (1 .. 8): a DOOR that a man TRIED, whether he PASSED it (1),");
        heardIs("01?5;p5+", 0b11111, 0b1111100000, 0, 1);
        heardIs("01?5;p5+", 0b11111, 0b1111100000, 0, 1, 0, 1, 0, 1, 0, 1, 0, 1, 0, 1, 0, 1, 0, 1);
        heardIs("01?6;p5+@1", 0b10100, 0b1111000000, 0, 1);
        RiddlePrison x = telling("01?5;p5+", 0, 1, 0, 1, 0, 1, 0, 1, 0, 1, 0, 1, 0, 1, 0, 1, 0, 1);
        for (int n : new int[] {0, -1, 9, LEAST, MOST}) {
            is(n + " pairs", x.heard(0, 0, 3, 0, n, 0), BAD);
        }
        is("the eighth counts", telling("01?5;p5+", 0, 1, 0, 1, 0, 1, 0, 1, 0, 1, 0, 1, 0, 1, 0, 0)
            .heard(0, 0, 3, 0, 8, 0), 0);
        is("the ninth does not", telling("01?5;p5+", 0, 1, 0, 1, 0, 1, 0, 1, 0, 1, 0, 1, 0, 1, 0, 1, 0, 0)
            .heard(0, 0, 3, 0, 8, 0), 0b11111);
    }

    private void heardFailed() {
        terms("or FAILED (0; also if it was not of his CELL: then nothing is done),");
        heardIs("01?5;p4+", 0b11111, 0b11111, 0, 0);
        heardIs("12?1;p9+", 0b11111, 0b1111111111, 0, 0);
        heardIs("12?1;p9+", 0, 0, 0, 1);
        // to have failed at a door of another cell makes a chaplain no wiser
        heardIs("01?6,12?1;c5+", 0, 0b1111000000, 1, 0, 0, 1);
        heardIs("01?6,12?1;c5+", 0b10000, 0b100000, 0, 0, 0, 1);
    }

    private void heardFromNow() {
        terms("one behind the other from now on:");
        heardIs("01?3,12?4,23?5;p9+", 0b11111, 0b1111100000, 0, 1, 1, 1, 2, 1);
        heardIs("01?3,12?4,23?5;p9+", 0, 0, 1, 1, 0, 1, 2, 1);
        RiddlePrison x = telling("01?3,12?4;c0+", 0, 0, 0, 0, 0, 0, 0, 1);
        is("from where he is", x.heard(0, 0, 3, 0, 4, 1), 0b0001);
        fail(x, 0, 0, 1);
        is("as often as he failed", x.heard(0, 0, 3, 0, 4, 1), 0);
        is("as often as he failed", x.heard(0, 0, 3, 2, 3, 1), 0b0001);
        x.whisper(0, 0);
        is("what he knows", x.heard(0, 0, 3, 6, 1, 1), 0b1111111111);
        x.attempt(0, 0);
        is("there and back", x.heard(0, 0, 3, 6, 1, 1), 0b1111111111);
        String ahead = look(x);
        x.heard(0, 0, 3, 0, 4, 0);
        same("all", look(x), ahead);
    }

    private void heardSets() {
        terms("KINDS (a set) of him by which it would be so; WITS (0 .. 9, a set).");
        heardIs("01+1;p0+", 0b00010, 0b1111111110, 0, 1);
        heardIs("01+9;p9?", 0b10111, 0b1000000000, 0, 1);
        heardIs("01?12;s9?", 0b01010, 0b1000000000, 0, 1);
        heardIs("01?13;s9?", 0, 0, 0, 1);
        heardIs("01?1;p0&", 0b11111, 0b0000000001, 0, 0);
        heardIs("01+3,01+4;s9+", 0, 0b0000000001, 0, 1, 0, 1, 1, 0);
        heardIs("10+11;w9+@1", 0b10110, 0b1000000000, 0, 1);
        heardIs("01+5,12+5;c4+", 0b10000, 0b0000010000, 0, 0, 0, 1);
    }

    private void undone() {
        terms("UNDONE: the latest TRIED, WHISPERED, SET, STUDIED, time of a DRIFT is as it had not been");
        RiddlePrison x = Due.prison("01+4;p4+,p3+");
        String[] ahead = new String[7];
        for (int k = 0; k < 7; k++) {
            ahead[k] = look(x);
            switch (k) {
                case 0: x.attempt(0, 0); break;
                case 1: x.attempt(1, 0); break;
                case 2: x.whisper(1, 0); break;
                case 3: x.set(0, 3, 19); break;
                case 4: x.study(1); break;
                default: x.drift(1);
            }
            is("so many may be", x.count(5), k + 1);
        }
        for (int k = 6; k >= 0; k--) {
            is("so many more may be", x.undo(), k);
            same("all", look(x), ahead[k]);
        }
        is("none", x.undo(), NONE);
    }

    private void eightAreKnown() {
        terms("(8 are known, older ones lost):");
        RiddlePrison x = Due.prison("01+1;p0+,p0+");
        for (int k = 1; k <= 9; k++) {
            x.study(0);
            is("known", x.count(5), Math.min(k, 8));
        }
        for (int k = 7; k >= 0; k--) {
            is("undo", x.undo(), k);
            is("wit", x.at(0, 1), k + 1);
        }
        is("the first one is lost", x.undo(), NONE);
        is("its wit stays", x.at(0, 1), 1);
        for (int k = 0; k < 8; k++) {
            x.study(1);
        }
        is("eight", x.count(5), 8);
        x.undo();
        x.undo();
        is("some again", x.study(1), 7);
        is("seven", x.count(5), 7);
        for (int k = 6; k >= 0; k--) {
            is("undo", x.undo(), k);
        }
        is("all of them", x.at(1, 1), 0);
        x.drift(40);
        is("eight of forty", x.count(5), 8);
        for (int k = 7; k >= 0; k--) {
            x.undo();
        }
        int draw = x.seed(1);
        x.drift(32);
        is("as behind the 32nd", draw, x.seed(0));
    }

    private void asAheadOfIt() {
        terms("where all are, what they KNOW, how often they FAILED, WIT, how HARD DOORS are, SORTS, THE DRAW are as "
            + "ahead of it, whatever was told since;");
        RiddlePrison x = Due.prison("01+4,01+9;p4+,c0?");
        x.seed(5);
        String ahead = look(x);
        x.study(1);
        x.seed(MOST);
        is("undo", x.undo(), 0);
        same("the draw, too", look(x), ahead);
        x.drift(2);
        x.seed(7);
        x.undo();
        int behindOne = x.seed(5);
        x.undo();
        same("all", look(x), ahead);
        x.drift(1);
        is("the draw ahead of the second", x.seed(5), behindOne);
        is("a seed is not undone by itself", x.undo(), 0);
        is("nor more", x.undo(), NONE);
        same("all", look(x), ahead);
    }

    private void nothingToBeUndone() {
        terms("a PRISON, a new DOOR, man leave nothing to be UNDONE.");
        RiddlePrison x = Due.prison("01+1;p0+");
        x.study(0);
        Due.read(x, "01+1;p0+");
        is("a PRISON", x.count(5), 0);
        is("a PRISON", x.undo(), NONE);
        x.study(0);
        x.door(0, 1, 0, 1);
        is("a new DOOR", x.count(5), 0);
        is("a new DOOR", x.undo(), NONE);
        x.study(0);
        x.man(0, 0, 0, 0);
        is("a new man", x.count(5), 0);
        is("a new man", x.undo(), NONE);
        is("what was studied stays", x.at(0, 1), 2);
        x.study(0);
        x.door(0, 0, 0, 1);
        x.man(0, 0, 0, 8);
        Due.read(x, "00+1");
        is("what is refused leaves it", x.count(5), 1);
        is("what is refused leaves it", x.undo(), 0);
    }

    private void draw() {
        terms("DRIFT by a seed: THE DRAW is a number of 31 bits (1 at first);");
        RiddlePrison x = new RiddlePrison();
        is("at first", x.seed(MOST), 1);
        is("the most", x.seed(0), MOST);
        is("the least", x.seed(1), 0);
        for (int k = 0; k < 100; k++) {
            x.drift(1);
            int draw = x.seed(0);
            is("never below 0", draw < 0 ? 1 : 0, 0);
            x.seed(draw);
        }
    }

    private void drawBecomes() {
        terms("each time it becomes the lowest 31 bits of itself times 1103515245 and 12345 more:");
        int[][] rows = {{0, 12345}, {1, 1103527590}, {2, 59559187}, {MOST, 1043980748}, {1 << 30, 1073754169},
            {TermsEdges.aheadOf(0), 0}, {TermsEdges.aheadOf(MOST), MOST}};
        for (int[] row : rows) {
            RiddlePrison x = new RiddlePrison();
            x.seed(row[0]);
            x.drift(1);
            is("behind " + row[0], x.seed(0), row[1]);
        }
        long draw = 1;
        RiddlePrison x = new RiddlePrison();
        for (int k = 0; k < 40; k++) {
            draw = (draw * 1103515245L + 12345L) % (1L << 31);
        }
        x.drift(40);
        is("forty times", x.seed(0), draw);
    }

    /** All stand at the only door, which is too hard: who failed is who tried. */
    private void whoTries() {
        terms("the man that it is by 65536, left over by how many there are,");
        int[] draws = {0, 65535, 65536, 131071, 131072, 4 * 65536 - 1, 4 * 65536, MOST, MOST - 65535};
        for (int draw : draws) {
            for (int men = 1; men <= 4; men++) {
                RiddlePrison x = Due.prison("01+19");
                for (int m = 0; m < men; m++) {
                    x.man(0, 0, 0, 0);
                }
                x.seed(TermsEdges.aheadOf(draw));
                is("how often all failed", x.drift(1), 1);
                is("who of " + men + " by " + draw, x.at(draw / 65536 % men, 5), 1);
            }
        }
    }

    /** All doors lead from his cell to another one each. */
    private void whichDoor() {
        terms("TRIES the DOOR that it is by 128, left over by how many there are, if it is of his CELL");
        int[] draws = {0, 127, 128, 255, 256, 7 * 128 - 1, 7 * 128, MOST, MOST - 127};
        for (int draw : draws) {
            for (int doors = 1; doors <= 7; doors++) {
                RiddlePrison x = new RiddlePrison();
                for (int d = 0; d < doors; d++) {
                    x.door(0, d + 1, 0, 1);
                }
                x.man(0, 1, 0, 0);
                x.seed(TermsEdges.aheadOf(draw));
                is("nobody failed", x.drift(1), 0);
                is("where of " + doors + " by " + draw, x.at(0, 3), draw / 128 % doors + 1);
            }
        }
        RiddlePrison elsewhere = Due.prison("12+19;p0+");
        is("not of his cell", elsewhere.drift(40), 0);
        is("he stays", elsewhere.at(0, 3), 0);
        is("each time may be undone", elsewhere.count(5), 8);
    }

    private void nobody() {
        terms("(nobody without men, DOORS; THE DRAW goes on).");
        RiddlePrison x = new RiddlePrison();
        is("without men and doors", x.drift(1), 0);
        is("the draw", x.seed(1), 1103527590);
        is("it may be undone", x.undo(), 0);
        is("the draw is as ahead of it", x.seed(1), 1);
        x.man(0, 0, 0, 0);
        is("without doors", x.drift(1), 0);
        is("the draw", x.seed(1), 1103527590);
        is("he stays", x.at(0, 3), 0);
        RiddlePrison y = Due.prison("01+1");
        is("without men", y.drift(1), 0);
        is("the draw", y.seed(1), 1103527590);
        is("it may be undone", y.undo(), 0);
    }

    private void sheets() {
        terms("3 sheets 0 .. 3: nothing (at first),");
        RiddlePrison x = Due.prison("01+1;p1+");
        for (int sheet = 0; sheet < 4; sheet++) {
            is("nothing to drop", x.drop(sheet), NULL);
            is("nothing to write to", x.item(sheet, 0, 0, 0), NULL);
            is("nothing to hear", x.heard(0, sheet, 0, 0, 1, 0), NULL);
            is("nothing to film to", x.film(0, 1, sheet, 0, 0), NULL);
            is("nothing to copy", x.copy(sheet, 0, sheet, 0, 0), NULL);
        }
        for (int sheet : new int[] {-1, 4, LEAST, MOST}) {
            is("no sheet " + sheet, x.sheet(sheet, 0, 1), BAD);
            is("no sheet " + sheet, x.drop(sheet), BAD);
            is("no sheet " + sheet, x.item(sheet, 0, 0, 0), BAD);
            is("no sheet " + sheet, x.heard(0, sheet, 0, 0, 1, 0), BAD);
            is("no sheet " + sheet, x.film(0, 1, sheet, 0, 0), BAD);
            is("no sheet " + sheet, x.copy(sheet, 0, 0, 0, 0), BAD);
            is("no sheet " + sheet, x.copy(0, 0, sheet, 0, 0), BAD);
        }
    }

    private void lanes() {
        terms("or a row of a LANE: 0 bytes, 1 shorts, 2 ints, 3 longs, of 0 to 24 items.");
        for (int lane = 0; lane < 4; lane++) {
            RiddlePrison x = Due.prison("01+1;p1+");
            is("none", x.sheet(0, lane, 0), 0);
            is("no item in it", x.item(0, lane, 0, 0), INDEX);
            is("none", x.drop(0), 0);
            is("most", x.sheet(0, lane, 24), 24);
            is("the last item", x.item(0, lane, 23, 1), 1);
            is("none behind it", x.item(0, lane, 24, 1), INDEX);
            is("too many", x.sheet(0, lane, 25), BAD);
            is("most", x.drop(0), 24);
            for (int other = 0; other < 4; other++) {
                x.sheet(0, lane, 1);
                is("of lane " + lane + " as " + other, x.item(0, other, 0, 0), lane == other ? 1 : CAST);
            }
        }
        RiddlePrison x = Due.prison("01+1;p1+");
        for (int lane : new int[] {-1, 4, LEAST, MOST}) {
            is("no lane " + lane, x.sheet(0, lane, 1), BAD);
            is("no lane " + lane, x.item(0, lane, 0, 0), BAD);
            is("no lane " + lane, x.heard(0, 0, lane, 0, 1, 0), BAD);
            is("no lane " + lane, x.film(0, 1, 0, lane, 0), BAD);
        }
    }
}
