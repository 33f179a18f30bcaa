/** Promises 1 to 29, but for where they say BAD. */
final class PromiseEdges extends Edges {
    PromiseEdges(Due due, Document document) {
        super(due, document);
    }

    @Override
    void all() {
        used();
        newObject();
        door();
        man();
        of();
        at();
        power();
        type();
        read();
        readFault();
        count();
        attempt();
        whisper();
        set();
        study();
        drift();
        undo();
        seed();
        way();
        waysAndReach();
        round();
        cutAndBridges();
        wit();
        lesson();
        meet();
        hunt();
        wander();
        image();
        restore();
        restoredHistory();
    }

    /** Up to the 512th call all is as promised; later ones may answer what they like, but answer. */
    private void used() {
        promise(Document.LIFE, "An object is used for at most 512 calls after it has been made; what later calls answer "
            + "is free.");
        RiddlePrison x = new RiddlePrison();
        x.door(0, 1, 0, 5);
        x.man(0, 5, 0, 0);
        for (int k = 3; k < 512; k++) {
            is("call " + k, x.attempt(0, 0), k % 2);
        }
        is("call 512", x.undo(), 7);
        for (int k = 0; k < 2000; k++) {
            x.attempt(0, 0);
            x.image();
            x.type(48);
            x.drift(40);
            x.restore();
        }
    }

    private void newObject() {
        promise(1, "Eight cells, no doors, nobody.");
        RiddlePrison x = new RiddlePrison();
        same("all", look(x), "0 0 0 0 0 0 1");
        is("nothing to undo", x.undo(), NONE);
        is("no image", x.restore(), NONE);
        is("the tape is empty", x.read(), -20);
        is("no door", x.of(0, 0), BAD);
        is("no man", x.reach(0), BAD);
        for (int cell = 0; cell < 8; cell += 2) {
            is("cells " + cell + ", " + (cell + 1), x.door(cell, cell + 1, 0, 1), cell / 2);
        }
        is("no ninth cell", x.door(7, 8, 0, 1), BAD);
        is("nothing of another object", new RiddlePrison().count(0), 0);
    }

    private void door() {
        promise(2, "A DOOR: its number.");
        RiddlePrison x = new RiddlePrison();
        for (int k = 0; k < 10; k++) {
            is("number", x.door(k % 7, 7, k % 4, 10 + k), k);
        }
        promise(2, "FULL: 10.");
        x.set(9, 0, 1);
        String ahead = look(x);
        is("the eleventh", x.door(0, 1, 0, 1), FULL);
        is("again", x.door(0, 1, 0, 1), FULL);
        same("all", look(x), ahead);
        is("what may be undone", x.undo(), 0);
        Due.read(x, "01+1");
        is("not full any more", x.door(0, 1, 0, 1), 1);
    }

    private void man() {
        promise(3, "A man: the number.");
        RiddlePrison x = new RiddlePrison();
        for (int k = 0; k < 4; k++) {
            is("number", x.man(k, k, k, k), k);
        }
        promise(3, "FULL: 4.");
        x.study(3);
        String ahead = look(x);
        is("the fifth", x.man(0, 0, 0, 0), FULL);
        same("all", look(x), ahead);
        is("what may be undone", x.undo(), 0);
        Due.read(x, "01+1;p0+,p0+,p0+");
        is("not full any more", x.man(0, 0, 0, 0), 3);
        is("full again", x.man(0, 0, 0, 0), FULL);
    }

    private void of() {
        promise(4, "Of a DOOR: 0 the first CELL, 1 the other one, 2 SORT, 3 how HARD, 4 men who KNOW it (a set), "
            + "5 men who can PASS it now (a set).");
        RiddlePrison x = Due.prison("70&19,01+1;p0+,p0+@7,p9+@3,s9&@7");
        x.whisper(0, 0);
        x.whisper(2, 0);
        int[] want = {7, 0, 3, 19, 0b0101, 0b0001};
        for (int what = 0; what < 6; what++) {
            is("what " + what, x.of(0, what), want[what]);
        }
        is("nobody knows", x.of(1, 4), 0);
        is("nobody can pass", x.of(1, 5), 0);
        x.study(0);
        is("one can now", x.of(1, 5), 0b0001);
        x.attempt(0, 0);
        is("not any more, from where he is", x.of(1, 5), 0);
        is("from its other side", x.of(0, 5), 0b0001);
        for (int m = 0; m < 4; m++) {
            x.whisper(m, 1);
        }
        is("all know", x.of(1, 4), 0b1111);
        is("nobody is there", x.of(1, 5), 0);
        is("nobody at all", Due.prison("01+1").of(0, 5), 0);
        is("nobody at all", Due.prison("01+1").of(0, 4), 0);
    }

    private void at() {
        promise(5, "Of a man: 0 KIND, 1 WIT, 2 his own SORT, 3 his CELL, 4 DOORS that he KNOWS (a set), 5 how often he "
            + "FAILED, 6 DOORS that he can PASS now (a set).");
        RiddlePrison x = Due.prison("01+1,01+2,01+3,01+4,01+5,01+6,01+7,01+8,01+9,71+1;c2=@1,p9+@7");
        x.whisper(0, 9);
        x.whisper(0, 0);
        fail(x, 0, 8, 3);
        int[] want = {4, 2, 2, 1, 0b1000000001, 3, 0b1001111111};
        for (int what = 0; what < 7; what++) {
            is("what " + what, x.at(0, what), want[what]);
        }
        is("doors of his cell alone", x.at(1, 6), 0b1000000000);
        RiddlePrison noDoors = new RiddlePrison();
        noDoors.man(4, 9, 3, 7);
        is("no doors", noDoors.at(0, 6), 0);
        is("none known", noDoors.at(0, 4), 0);
    }

    private void power() {
        promise(6, "POWER of a man at a DOOR.");
        RiddlePrison x = Due.prison("01+19,12+1;p0+,s9+,w9+@1,c9+@1");
        int[] want = {0, 12, 11, 11};
        for (int man = 0; man < 4; man++) {
            is("man " + man, x.power(man, 0), want[man]);
        }
        x.whisper(0, 0);
        is("to know gives none", x.power(0, 0), 0);
        promise(6, "NOT: it is not of his CELL.");
        is("of another cell", x.power(0, 1), NOT);
        is("both of his", x.power(2, 1), 11);
        x.whisper(0, 1);
        is("though he knows it", x.power(0, 1), NOT);
    }

    private void type() {
        promise(7, "One letter more behind THE TAPE: how many it has.");
        RiddlePrison x = new RiddlePrison();
        for (int k = 1; k <= 90; k++) {
            is("letter", x.type(k == 1 ? 126 : 32), k);
            if (k == 50) {
                is("one that is refused is not one more", x.type(127), BAD);
            }
        }
        promise(7, "FULL: 90.");
        is("one more", x.type(48), FULL);
        is("and again", x.type(48), FULL);
        is("the first letter still stands there", x.read(), -20);
        is("empty then", x.type(48), 1);
        String padded = "01+1" + " ".repeat(86);
        is("90 letters", Due.read(new RiddlePrison(), padded), 1);
        is("a letter that is refused is not read", Due.read(new RiddlePrison(), padded + "x"), 1);
    }

    private void read() {
        promise(8, "THE TAPE, which is empty then, is a PRISON: how many DOORS.");
        RiddlePrison x = new RiddlePrison();
        is("one", Due.read(x, "01+1;p5+"), 1);
        is("empty then", x.read(), -20);
        is("ten", Due.read(x, TEN_DOORS), 10);
        is("empty then", x.type(48), 1);
        is("a fault empties it, too", x.read(), -21);
        is("so that it is", x.read(), -20);
        is("and one", Due.read(x, "01+1"), 1);
    }

    private void readFault() {
        promise(8, "A FAULT (all else stays).");
        RiddlePrison x = Due.prison("01+4,12?9;p4+,c0?@1");
        x.seed(9);
        x.attempt(0, 0);
        x.attempt(1, 1);
        write(x, 0, 2, 5, 6);
        x.image();
        x.study(0);
        String ahead = look(x);
        is("fault", Due.read(x, "34=1,45=1,56=1;w0+,w0+,w0+,w0+x"), -50);
        is("fault", Due.read(x, "34=20"), -23);
        is("fault", x.read(), -20);
        same("all", look(x), ahead);
        is("what may be undone", x.undo(), 2);
        is("is undone", x.at(0, 1), 4);
        is("the image", x.restore(), 1);
        is("of then", x.count(5), 2);
        same("the sheet", items(x, 0, 2, 2), "56");
    }

    private void count() {
        promise(9, "0 DOORS, 1 men, 2 how HARD all DOORS are together, 3 how often all FAILED together, 4 CELLS in which "
            + "there is a man (a set), 5 what may be UNDONE.");
        RiddlePrison x = new RiddlePrison();
        for (int what = 0; what < 6; what++) {
            is("nothing yet, " + what, x.count(what), 0);
        }
        Due.read(x, "01+19,01+19,01+19,01+19,01+19,01+19,01+19,01+19,01+19,01+19;p0+,p0+,p0+@1,p0+@7");
        fail(x, 0, 0, 2);
        fail(x, 1, 9, 3);
        fail(x, 2, 5, 4);
        int[] want = {10, 4, 190, 9, 0b10000011, 8};
        for (int what = 0; what < 6; what++) {
            is("what " + what, x.count(what), want[what]);
        }
        fail(x, 0, 0, 97);
        fail(x, 1, 0, 97);
        fail(x, 2, 0, 97);
        is("99 each at most", x.count(3), 297);
    }

    private void attempt() {
        promise(10, "TRIED: the CELL where he is then.");
        RiddlePrison x = Due.prison("07+3,12+3;p3+,p2+,w1+@1");
        is("passed", x.attempt(0, 0), 7);
        is("and back", x.attempt(0, 0), 0);
        is("failed", x.attempt(1, 0), 0);
        is("a warder from an odd cell", x.attempt(2, 1), 2);
        is("and not back", x.attempt(2, 1), 2);
        is("each may be undone", x.count(5), 5);
        promise(10, "NOT: it is not of his CELL.");
        String ahead = look(x);
        is("not of his cell", x.attempt(0, 1), NOT);
        same("nobody failed, nothing may be undone", look(x), ahead);
    }

    private void whisper() {
        promise(11, "WHISPERED: DOORS that he KNOWS then (a set).");
        RiddlePrison x = Due.prison(TEN_DOORS + ";p0+,p0+");
        int known = 0;
        for (int d = 9; d >= 0; d--) {
            known |= 1 << d;
            is("door " + d, x.whisper(0, d), known);
        }
        promise(11, "NOT: he does.");
        String ahead = look(x);
        for (int d = 0; d < 10; d++) {
            is("door " + d, x.whisper(0, d), NOT);
        }
        same("all", look(x), ahead);
        is("the other one does not", x.whisper(1, 0), 1);
        is("nor he, if it is undone", x.undo(), 7);
        is("so", x.whisper(1, 0), 1);
        x.set(3, 0, 1);
        is("nor behind a set", x.whisper(0, 3), 0x3ff);
    }

    private void set() {
        promise(12, "SET anew: how HARD it was.");
        RiddlePrison x = Due.prison("01+1,12+19;p0+");
        is("the least", x.set(0, 3, 19), 1);
        is("the most", x.set(0, 0, 1), 19);
        is("as it is", x.set(0, 0, 1), 1);
        is("each may be undone", x.count(5), 3);
        is("the other one stays", x.of(1, 3), 19);
    }

    private void study() {
        promise(13, "STUDIED: WIT then.");
        RiddlePrison x = Due.prison("01+1;p0+,p9+");
        for (int wit = 1; wit <= 9; wit++) {
            is("1 more", x.study(0), wit);
        }
        promise(13, "NOT: it is 9.");
        String ahead = look(x);
        is("no more", x.study(0), NOT);
        is("nor the other one", x.study(1), NOT);
        same("all", look(x), ahead);
        is("8 are known", x.undo(), 7);
        is("so", x.study(0), 9);
    }

    private void drift() {
        promise(14, "A DRIFT of n times (1 .. 40; each by itself may be UNDONE): how often all FAILED together.");
        RiddlePrison x = Due.prison("01+19;p0+,p0+,p0+");
        fail(x, 0, 0, 2);
        is("once", x.drift(1), 3);
        is("one more may be undone", x.count(5), 3);
        is("forty times", x.drift(40), 43);
        is("eight may be undone", x.count(5), 8);
        for (int k = 7; k >= 0; k--) {
            is("one time each", x.undo(), k);
            is("failed", x.count(3), 35 + k);
        }
        RiddlePrison most = Due.prison("01+19;p0+");
        fail(most, 0, 0, 98);
        is("99 at most", most.drift(40), 99);
        is("still", most.drift(1), 99);
    }

    private void undo() {
        promise(15, "UNDONE: how many more may be.");
        RiddlePrison x = Due.prison("01+1;p0+");
        for (int k = 0; k < 9; k++) {
            x.study(0);
        }
        for (int k = 7; k >= 0; k--) {
            is("more", x.undo(), k);
            is("as counted", x.count(5), k);
        }
        promise(15, "NONE: none is known.");
        String ahead = look(x);
        is("none", x.undo(), NONE);
        same("all", look(x), ahead);
        is("a new object", new RiddlePrison().undo(), NONE);
    }

    private void seed() {
        promise(16, "THE DRAW becomes v: what it was.");
        RiddlePrison x = Due.prison("01+1;p0+");
        is("at first", x.seed(0), 1);
        is("0", x.seed(MOST), 0);
        is("the most", x.seed(5), MOST);
        is("nothing to be undone", x.count(5), 0);
        is("refused", x.seed(-1), BAD);
        is("stays", x.seed(6), 5);
        x.drift(1);
        is("goes on from there", x.seed(0), (int) ((6L * 1103515245L + 12345L) % (1L << 31)));
        is("leaves what may be undone", x.count(5), 1);
    }

    private void way() {
        promise(17, "WAY: how many (k -1), the k-th DOOR (NONE: not so many);");
        RiddlePrison x = Due.prison("12+1,01+1;p1+,p0+");
        is("how many", x.way(0, 2, -1), 2);
        is("the first is of k 0", x.way(0, 2, 0), 1);
        is("the last", x.way(0, 2, 1), 0);
        is("not so many", x.way(0, 2, 2), NONE);
        is("not so many", x.way(0, 2, MOST), NONE);
        is("he is there", x.way(0, 0, -1), 0);
        is("not so many", x.way(0, 0, 0), NONE);
        promise(17, "NONE.");
        is("none", x.way(1, 2, -1), NONE);
        is("none", x.way(1, 2, 0), NONE);
        is("none", x.way(0, 3, MOST), NONE);
    }

    private void waysAndReach() {
        promise(18, "WAYS.");
        RiddlePrison x = Due.prison(TEN_DOORS + ";p1+,p0+@7");
        is("ten", x.ways(0, 1), 10);
        is("he is there", x.ways(0, 0), 1);
        is("none", x.ways(0, 7), 0);
        promise(19, "REACH (a set).");
        is("two", x.reach(0), 0b11);
        is("his own", x.reach(1), 0x80);
    }

    private void round() {
        promise(20, "ROUND;");
        RiddlePrison x = Due.prison("01+1,12+1;p1+@1");
        is("no cells", x.round(0, 0), 0);
        is("his own", x.round(0, 0b010), 0);
        is("all three", x.round(0, 0b111), 3);
        is("but his own", x.round(0, 0b101), 3);
        promise(20, "NONE.");
        is("one of them out of reach", x.round(0, 0b1001), NONE);
        is("all eight", x.round(0, 255), NONE);
    }

    private void cutAndBridges() {
        promise(21, "CUT: how many (what 0), which (1);");
        RiddlePrison x = Due.prison("01+1,12+1,12+1;p1+");
        is("how many", x.cut(0, 2, 0), 1);
        is("which", x.cut(0, 2, 1), 0b001);
        is("none need be shut", x.cut(0, 3, 0), 0);
        is("no door", x.cut(0, 3, 1), 0);
        promise(21, "NONE.");
        is("he is there", x.cut(0, 0, 0), NONE);
        is("he is there", x.cut(0, 0, 1), NONE);
        promise(22, "BRIDGES (a set).");
        is("one", x.bridges(0, 2), 0b001);
        is("he is there", x.bridges(0, 0), 0);
        is("out of reach", x.bridges(0, 3), 0);
    }

    private void wit() {
        promise(23, "WIT;");
        RiddlePrison x = Due.prison("01+9,12+10;p0+");
        is("he is there", x.wit(0, 0), 0);
        is("the most", x.wit(0, 1), 9);
        is("he has not got it", x.at(0, 1), 0);
        promise(23, "NONE.");
        is("too hard", x.wit(0, 2), NONE);
        is("no door", x.wit(0, 3), NONE);
    }

    private void lesson() {
        promise(24, "LESSON: the SORT (what 0), to how many CELLS (1).");
        RiddlePrison x = Due.prison("01&3,12&3;s0+,p0&");
        is("which", x.lesson(0, 0), 3);
        is("to how many", x.lesson(0, 1), 3);
        is("his own stays", x.at(0, 2), 0);
        is("of like ones the first", x.lesson(1, 0), 0);
        is("his own cell alone", x.lesson(1, 1), 1);
    }

    private void meet() {
        promise(25, "MEET: the CELL (what 0), how many DOORS (1);");
        RiddlePrison x = Due.prison("01+1,12+1,56+1;p1+,p1+@2,p1+@5,p0+@5");
        is("which", x.meet(0, 1, 0), 1);
        is("how many", x.meet(0, 1, 1), 1);
        is("both are there", x.meet(2, 3, 0), 5);
        is("both are there", x.meet(2, 3, 1), 0);
        promise(25, "NONE.");
        is("none", x.meet(0, 2, 0), NONE);
        is("none", x.meet(0, 2, 1), NONE);
    }

    private void hunt() {
        promise(26, "HUNT;");
        RiddlePrison x = Due.prison("01+1,12+1,12+1,23+1;p1+");
        is("he is there", x.hunt(0, 0, 0), 0);
        is("he is there", x.hunt(0, 0, 3), 0);
        is("one", x.hunt(0, 1, 1), 1);
        is("two", x.hunt(0, 2, 3), 2);
        promise(26, "NONE.");
        is("no steps", x.hunt(0, 1, 0), NONE);
        is("too few", x.hunt(0, 2, 1), NONE);
        is("the only door is shut", x.hunt(0, 3, 3), NONE);
        is("out of reach", x.hunt(0, 7, 3), NONE);
    }

    private void wander() {
        promise(27, "WANDER: above (what 0), below (1).");
        RiddlePrison x = Due.prison("01+1,02+1,03+1;p1+,p0+@7");
        is("above", x.wander(0, 1, 3, 0), 1);
        is("below", x.wander(0, 1, 3, 1), 3);
        is("never: above", x.wander(0, 1, 4, 0), 0);
        is("never: below", x.wander(0, 1, 4, 1), 1);
        is("surely: above", x.wander(1, 7, 4, 0), 1);
        is("surely: below", x.wander(1, 7, 4, 1), 1);
    }

    private void image() {
        promise(28, "All but SHEETS, THE TAPE is kept as an IMAGE: 1.");
        RiddlePrison x = Due.prison("01+4,12?9;p4+,c0?@1");
        x.seed(9);
        fail(x, 1, 1, 2);
        x.whisper(1, 0);
        x.attempt(0, 0);
        write(x, 0, 2, 1, 2);
        x.type('0');
        String ahead = look(x);
        is("image", x.image(), 1);
        same("nothing is changed by it", look(x), ahead);
        x.item(0, 2, 1, 7);
        x.type('1');
        x.drift(9);
        x.door(5, 6, 0, 1);
        x.man(0, 0, 0, 0);
        is("restore", x.restore(), 1);
        same("all as then", look(x), ahead);
        is("what may be undone, too", x.undo(), 3);
        is("as ahead of it", x.at(0, 3), 0);
        is("the tape is as now", x.type('+'), 3);
        is("and read", Due.read(x, "1"), 1);
        same("the sheet is as now", items(x, 0, 2, 2), "17");
    }

    private void restore() {
        promise(29, "All is as it was then: 1.");
        RiddlePrison x = new RiddlePrison();
        is("an image of nothing", x.image(), 1);
        Due.read(x, "01+4;p4+");
        x.study(0);
        is("restore", x.restore(), 1);
        same("nothing", look(x), "0 0 0 0 0 0 1");
        Due.read(x, "01+4;p4+");
        x.study(0);
        x.image();
        x.study(0);
        x.restore();
        is("the latest image", x.at(0, 1), 5);
        x.undo();
        x.undo();
        x.restore();
        is("and once more", x.at(0, 1), 5);
        is("with what may be undone", x.undo(), 0);
        is("so that it is", x.at(0, 1), 4);
        promise(29, "NONE: there is none.");
        RiddlePrison none = Due.prison("01+4;p4+");
        none.study(0);
        String ahead = look(none);
        is("none", none.restore(), NONE);
        same("all", look(none), ahead);
        x.image();
        is("none of another object", none.restore(), NONE);
    }

    /** What may be UNDONE of then is all that was, whatever was done and undone since. */
    private void restoredHistory() {
        promise(29, "All is as it was then: 1.");
        for (int done : new int[] {1, 4, 8}) {
            RiddlePrison x = Due.prison("01+1;p0+");
            String[] ahead = new String[done];
            for (int k = 0; k < done; k++) {
                ahead[k] = look(x);
                x.study(0);
            }
            x.image();
            x.drift(20);
            x.restore();
            is("so many may be undone", x.count(5), done);
            for (int k = done - 1; k >= 0; k--) {
                is("so many more", x.undo(), k);
                same("as ahead of it", look(x), ahead[k]);
            }
            is("none", x.undo(), NONE);
        }
    }
}
