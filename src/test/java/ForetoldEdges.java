/** The document's Terms, part 2: what is foretold. */
final class ForetoldEdges extends Edges {
    /** They lead from cell 3 to 1, and back. */
    private static final String NINE_ELSEWHERE = "31+1,31+1,31+1,31+1,31+1,31+1,31+1,31+1,31+1";
    private static final String CHAIN = "01+1,12+1,23+1,34+1,45+1,56+1,67+1";

    ForetoldEdges(Due due, Document document) {
        super(due, document);
    }

    @Override
    void all() {
        fromNow();
        way();
        firstOfLikeRows();
        ways();
        reach();
        round();
        cut();
        leastCut();
        bridges();
        wit();
        lesson();
        meet();
        hunt();
        huntedLonger();
        wander();
        wanderFraction();
    }

    private void fromNow() {
        terms("FORETOLD from now (nothing is changed; nobody FAILS, KNOWS more meanwhile).");
        RiddlePrison x = Due.prison("01+5,12+3,10?4;c2?@1,s3+,u1?@2");
        x.attempt(0, 0);
        x.whisper(1, 1);
        x.seed(99);
        String ahead = look(x);
        for (int man = 0; man < 3; man++) {
            for (int what = 0; what < 2; what++) {
                x.cut(man, 2, what);
                x.lesson(man, what);
                x.meet(man, (man + 1) % 3, what);
                x.wander(man, 2, 4, what);
                x.way(man, 2, what - 1);
            }
            x.ways(man, 2);
            x.reach(man);
            x.round(man, 7);
            x.bridges(man, 2);
            x.wit(man, 2);
            x.hunt(man, 2, 3);
        }
        same("all", look(x), ahead);
        is("the latest is still known", x.undo(), 1);
        is("as it was", x.at(1, 4), 0);
        RiddlePrison chaplain = Due.prison("01+1,12+2;c1+");
        is("without failing", chaplain.way(0, 2, -1), 2);
        chaplain.set(1, 0, 4);
        is("he would have to fail first", chaplain.way(0, 2, -1), NONE);
        chaplain.set(0, 0, 19);
        fail(chaplain, 0, 0, 1);
        chaplain.set(0, 0, 1);
        is("as he has now", chaplain.way(0, 2, -1), 2);
    }

    private void way() {
        terms("WAY of a man to a CELL: the fewest DOORS that he can PASS one behind the other, by which he gets there "
            + "from his CELL (0: he is there),");
        RiddlePrison x = Due.prison(CHAIN + ",06+2;p1+,p2+,p0+@7");
        is("he is there", x.way(0, 0, -1), 0);
        is("through all", x.way(0, 7, -1), 7);
        is("one who passes a harder one", x.way(1, 7, -1), 2);
        is("one who passes none", x.way(2, 6, -1), NONE);
        is("but he is there", x.way(2, 7, -1), 0);
        RiddlePrison noDoors = new RiddlePrison();
        noDoors.man(0, 9, 0, 7);
        is("without doors he is there", noDoors.way(0, 7, -1), 0);
        is("and nowhere else", noDoors.way(0, 0, -1), NONE);
        RiddlePrison knows = Due.prison("01+19,12+19;p9+");
        knows.whisper(0, 1);
        is("one that he knows behind one that he does not", knows.way(0, 2, -1), NONE);
        knows.whisper(0, 0);
        is("both that he knows", knows.way(0, 2, -1), 2);
        RiddlePrison warder = Due.prison("10+4,12+4,23+2;w2+@1");
        is("2 more from an odd cell, not from an even one", warder.way(0, 3, -1), 2);
        warder.set(2, 0, 3);
        is("2 more from an odd cell, not from an even one", warder.way(0, 3, -1), NONE);
    }

    private void firstOfLikeRows() {
        terms("of like rows the first (by numbers, rising): how many; the k-th DOOR; none.");
        RiddlePrison x = Due.prison("13+1,23+1,02+1,01+1,03+9;p1+");
        is("how many", x.way(0, 3, -1), 2);
        is("the lower first door, not the lower last one", x.way(0, 3, 0), 2);
        is("behind it", x.way(0, 3, 1), 1);
        is("no third", x.way(0, 3, 2), NONE);
        is("none of that number", x.way(0, 3, MOST), NONE);
        is("none at all", x.way(0, 7, -1), NONE);
        is("none at all", x.way(0, 7, 0), NONE);
        is("he is there: none", x.way(0, 0, 0), NONE);
        RiddlePrison like = Due.prison("12+1,12+1,01+1,01+1;p1+");
        is("the first of two", like.way(0, 2, 0), 2);
        is("the first of two", like.way(0, 2, 1), 0);
        RiddlePrison longest = Due.prison("67+1,56+1,45+1,34+1,23+1,12+1,01+1,02+2,13+2,24+2;p1+");
        for (int k = 0; k < 7; k++) {
            is("door " + k, longest.way(0, 7, k), 6 - k);
        }
        is("no eighth", longest.way(0, 7, 7), NONE);
        is("fewer doors rather than lower numbers", Due.prison("01+1,12+1,02+1;p1+").way(0, 2, 0), 2);
    }

    /** Ten doors make 36 rows at most, so the remainder by 1000003 can't be told from the number itself. */
    private void ways() {
        terms("WAYS: how many such rows of as few there are (left over by 1000003; none: 0).");
        RiddlePrison x = Due.prison("01+1,01+1,01+1,12+1,12+1,12+1,12+1,23+1,23+1,23+1;p1+,p0+");
        is("3 by 4 by 3", x.ways(0, 3), 36);
        is("3 by 4", x.ways(0, 2), 12);
        is("he is there: one row of none", x.ways(0, 0), 1);
        is("none", x.ways(0, 4), 0);
        is("none", x.ways(1, 1), 0);
        is("he is there", x.ways(1, 0), 1);
        is("longer rows do not count", Due.prison("01+1,12+1,02+1;p1+").ways(0, 2), 1);
        is("five by two", Due.prison("01+1,17+1,02+1,27+1,03+1,37+1,04+1,47+1,05+1,57+1;p1+").ways(0, 7), 5);
    }

    private void reach() {
        terms("REACH: CELLS that he can get to (a set; his own, too).");
        is("all", Due.prison(CHAIN + ";p1+@3").reach(0), 0xff);
        is("his own alone", Due.prison(CHAIN + ";p0+@7").reach(0), 0x80);
        is("his own alone", Due.prison(CHAIN + ";p0+").reach(0), 0x01);
        is("up to a hard one", Due.prison("01+1,12+1,23+2;p1+").reach(0), 0x07);
        RiddlePrison noDoors = new RiddlePrison();
        noDoors.man(0, 0, 0, 4);
        is("without doors", noDoors.reach(0), 0x10);
    }

    private void round() {
        terms("ROUND for a man, a set of CELLS: the fewest DOORS that he PASSES (some more than once, maybe) so that he "
            + "has been in all of them (his own counts from the beginning): how many; none.");
        RiddlePrison star = Due.prison("01+1,02+1,03+1,04+1,05+1,06+1,07+1;p1+,p1+@7,p0+@7");
        is("no cells", star.round(0, 0), 0);
        is("his own", star.round(0, 1), 0);
        is("all, from the middle", star.round(0, 255), 13);
        is("all, from one end", star.round(1, 255), 12);
        is("all but his own", star.round(1, 0x7f), 12);
        is("one who passes none: no cells", star.round(2, 0), 0);
        is("one who passes none: his own", star.round(2, 0x80), 0);
        is("one who passes none", star.round(2, 0x81), NONE);
        RiddlePrison chain = Due.prison(CHAIN + ";p1+@3");
        is("there and back again", chain.round(0, 255), 10);
        is("both ends", chain.round(0, 0x81), 10);
        is("one end", chain.round(0, 0x80), 4);
        RiddlePrison oneWay = Due.prison("10+3,12+3;w1+@1");
        is("one of two", oneWay.round(0, 0b110), 1);
        is("not both: he can't come back", oneWay.round(0, 0b101), NONE);
        RiddlePrison split = Due.prison("01+1,23+1,34+1,45+1;p1+,p1+@2");
        is("one on that side", split.round(1, 0b100100), 3);
        is("one on the other side, whatever was asked ahead", split.round(0, 0b100100), NONE);
        RiddlePrison triangle = Due.prison("01+1,12+1,02+1;p1+,p1+@1,p1+@2");
        is("straight, though a cell ahead of it leads there too", triangle.round(0, 0b100), 1);
        is("straight from 1", triangle.round(1, 0b100), 1);
        is("straight from 2", triangle.round(2, 0b010), 1);
        is("both others", triangle.round(0, 0b110), 2);
        RiddlePrison ring = Due.prison("01+1,12+1,23+1,34+1,45+1,56+1,67+1,70+1;p1+");
        is("a ring of eight", ring.round(0, 255), 7);
        is("the opposite cell", ring.round(0, 0b00010000), 4);
        is("both next ones", ring.round(0, 0b10000010), 3);
        is("turning back is shorter than all round", ring.round(0, 0b10000110), 4);
    }

    private void cut() {
        terms("CUT for a man, a CELL: the fewest DOORS to be shut for good so that he cannot get there,");
        cutIs(Due.prison(TEN_DOORS + ";p1+"), 1, 10, 0x3ff);
        cutIs(Due.prison(TEN_DOORS + ";p0+"), 1, 0, 0);
        cutIs(Due.prison(TEN_DOORS + ";p1+"), 7, 0, 0);
        cutIs(Due.prison("01+1,01+1,01+2;p1+"), 1, 2, 0b11);
        cutIs(Due.prison("01+1,02+1,12+1;p1+"), 2, 2, 0b011);
        // one door, though the two ahead of it make a lesser set
        cutIs(Due.prison("01+1,01+1,12+1;p1+"), 2, 1, 0b100);
        cutIs(Due.prison("10+3,12+3,20+3;w1+@1"), 2, 1, 0b10);
        RiddlePrison knows = Due.prison("01+19,01+19;p0+");
        knows.whisper(0, 1);
        cutIs(knows, 1, 1, 0b10);
    }

    private void cutIs(RiddlePrison x, int cell, int many, int which) {
        is("how many", x.cut(0, cell, 0), many);
        is("which", x.cut(0, cell, 1), which);
    }

    private void leastCut() {
        terms("of like ones the least set: how many; which; none: he is there.");
        cutIs(Due.prison("12+1,01+1;p1+"), 2, 1, 0b01);
        cutIs(Due.prison("01+1,12+1;p1+"), 2, 1, 0b01);
        // doors 7 and 8 make a lesser set than 0 and 9
        cutIs(Due.prison("01+1,34+1,34+1,34+1,34+1,34+1,34+1,12+1,12+1,01+1;p1+"), 2, 2, 0x180);
        cutIs(Due.prison("01+1;p1+"), 0, NONE, NONE);
        cutIs(Due.prison("01+1;p1+@7"), 7, NONE, NONE);
        RiddlePrison noDoors = new RiddlePrison();
        noDoors.man(0, 0, 0, 3);
        cutIs(noDoors, 3, NONE, NONE);
        cutIs(noDoors, 2, 0, 0);
    }

    private void bridges() {
        terms("BRIDGES: DOORS without any single one of which he could not get there "
            + "(a set; 0: he is there, he cannot get there at all).");
        RiddlePrison x = Due.prison(CHAIN + ",76+1;p1+,p0+");
        is("all of a chain", x.bridges(0, 6), 0x3f);
        is("not one of two side by side", x.bridges(0, 7), 0x3f);
        is("he is there", x.bridges(0, 0), 0);
        is("he cannot get there", x.bridges(1, 7), 0);
        is("he is there", x.bridges(1, 0), 0);
        is("no door leads there", Due.prison("01+1;p1+").bridges(0, 5), 0);
        is("the last door", Due.prison("23+1,23+1,23+1,23+1,23+1,23+1,23+1,23+1,23+1,01+1;p1+").bridges(0, 1), 0x200);
        is("round a ring", Due.prison("01+1,12+1,20+1,23+1;p1+").bridges(0, 3), 0b1000);
        is("too hard a door is no way round", Due.prison("01+1,01+2;p1+").bridges(0, 1), 0b01);
    }

    private void wit() {
        terms("WIT for a man, a CELL: the least (0 .. 9) that he must have to get there; none.");
        RiddlePrison x = Due.prison("01+9,12+10,02+1,34+1;p0+,s0+,u9+");
        is("the most", x.wit(0, 1), 9);
        is("the least of a way", x.wit(0, 2), 1);
        is("he is there", x.wit(0, 0), 0);
        is("he has more", x.wit(2, 0), 0);
        is("no door leads there", x.wit(0, 3), NONE);
        is("a scholar of it", x.wit(1, 1), 6);
        is("a punster at sums", x.wit(2, 1), NONE);
        RiddlePrison hard = Due.prison("01+10,01+13,01+12;p9+");
        is("10 is too much", hard.wit(0, 1), NONE);
        Due.read(hard, "01+12;s0+");
        is("a scholar up to 12", hard.wit(0, 1), 9);
        Due.read(hard, "01+13;s0+");
        is("not 13", hard.wit(0, 1), NONE);
        Due.read(hard, "01+3;s9+");
        is("a scholar without wit", hard.wit(0, 1), 0);
        Due.read(hard, "10+19;c0+@1");
        fail(hard, 0, 0, 7);
        is("a chaplain who failed too little", hard.wit(0, 0), NONE);
        fail(hard, 0, 0, 1);
        is("and once more", hard.wit(0, 0), 9);
        fail(hard, 0, 0, 2);
        is("and as often as counts", hard.wit(0, 0), 8);
        hard.whisper(0, 0);
        is("one who knows", hard.wit(0, 0), 0);
    }

    private void lesson() {
        terms("LESSON for a man: the SORT that should be his own so that he can get to most CELLS, of like ones the "
            + "first; to how many.");
        lessonIs("01+3,02?3,03=3,04&3;s0&", 0, 2);
        lessonIs("01+4,02?3,03=3,04&3;s0&", 1, 2);
        lessonIs("01+4,02?4,03=4,04&3;s0+", 3, 2);
        lessonIs("01+4,02?4,03=4,04&4;s0&", 0, 1);
        lessonIs("01+3,02?3,03=3,04&3;u0&", 1, 2);
        lessonIs("01=3,12=3,23=3,34=3,45=3,56=3,67=3;s0+", 2, 8);
        lessonIs(CHAIN + ";p1=", 0, 8);
        lessonIs("01?19;p9&", 0, 1);
        RiddlePrison noDoors = new RiddlePrison();
        noDoors.man(1, 9, 2, 3);
        is("without doors", noDoors.lesson(0, 0), 0);
        is("without doors", noDoors.lesson(0, 1), 1);
    }

    private void lessonIs(String text, int sort, int cells) {
        RiddlePrison x = Due.prison(text);
        is(text + ", which", x.lesson(0, 0), sort);
        is(text + ", to how many", x.lesson(0, 1), cells);
    }

    private void meet() {
        terms("MEET for two men: the CELL that both can get to, so that the longer one of both WAYS is as short as can "
            + "be, of like ones the first: which; how many DOORS the longer one has; none.");
        meetIs(CHAIN + ";p1+,p1+@7", 3, 4);
        meetIs(CHAIN + ";p1+@7,p1+", 3, 4);
        meetIs(CHAIN + ";p1+,p0+@7", 7, 7);
        meetIs(CHAIN + ";p0+,p1+@7", 0, 7);
        meetIs(CHAIN + ";p0+,p0+@7", NONE, NONE);
        meetIs(CHAIN + ";p0+@5,p0+@5", 5, 0);
        meetIs("01+1;p0+@7,p0+@7", 7, 0);
        meetIs("71+1,72+1,61+1,62+1;p1+@7,p1+@6", 1, 1);
        meetIs("56+1,05+1,06+1;p1+@5,p1+@6", 0, 1);
        meetIs("01+1,67+1;p1+,p1+@7", NONE, NONE);
        meetIs("10+3,12+3;w1+@1,w1+@2", 2, 1);
    }

    private void meetIs(String text, int cell, int doors) {
        RiddlePrison x = Due.prison(text);
        is(text + ", which", x.meet(0, 1, 0), cell);
        is(text + ", how many", x.meet(0, 1, 1), doors);
    }

    private void hunt() {
        terms("HUNT for a man, a CELL, n STEPS (0 .. 3): he PASSES a DOOR, then somebody shuts one for good (any one), "
            + "and so on by turns, n times:");
        RiddlePrison x = Due.prison("01+1,12+1,12+1,23+1,23+1,23+1;p1+,p0+");
        int[][] steps = {{0, NONE, NONE, NONE}, {0, 1, NONE, NONE}, {0, 1, 2, NONE}, {0, 1, 2, 3}};
        for (int n = 0; n < 4; n++) {
            for (int cell = 0; cell < 4; cell++) {
                is("to " + cell + " by " + n, x.hunt(0, cell, n), steps[n][cell]);
            }
            is("one who passes none, there", x.hunt(1, 0, n), 0);
            is("one who passes none, elsewhere", x.hunt(1, 1, n), NONE);
        }
        is("fewer than none", x.hunt(0, 0, -1), BAD);
        is("too many", x.hunt(0, 0, 4), BAD);
        RiddlePrison noDoors = new RiddlePrison();
        noDoors.man(0, 0, 0, 0);
        is("without doors he is there", noDoors.hunt(0, 0, 3), 0);
        is("and nowhere else", noDoors.hunt(0, 1, 3), NONE);
        terms("(The last STEP is done, when he is there.)");
        RiddlePrison only = Due.prison("01+1,12+1,12+1;p1+");
        is("the only door is not shut ahead of his first step", only.hunt(0, 1, 1), 1);
        is("nor does he go on, once he is there", only.hunt(0, 1, 3), 1);
        is("what is shut behind the last step is too late", only.hunt(0, 2, 2), 2);
    }

    private void huntedLonger() {
        terms("the fewest STEPS (0 .. n) by which he gets there, whatever is shut; none.");
        RiddlePrison round = Due.prison("01+1,12+1,13+1,32+1,32+1;p1+");
        is("the WAY is 2", round.way(0, 2, -1), 2);
        is("but not if the door is shut", round.hunt(0, 2, 2), NONE);
        is("then he goes round", round.hunt(0, 2, 3), 3);
        round.set(4, 0, 2);
        is("too hard a door is of no use to him", round.hunt(0, 2, 3), NONE);
        RiddlePrison two = Due.prison("01+1,12+1,12+1;p1+");
        is("one of two is left", two.hunt(0, 2, 3), 2);
        two.set(2, 0, 2);
        is("none of one is left", two.hunt(0, 2, 3), NONE);
        is("the first of all doors may be shut, too", Due.prison("12+1,01+1;p1+").hunt(0, 2, 3), NONE);
        is("and the last", Due.prison(NINE_ELSEWHERE + ",12+1;p1+@3").hunt(0, 2, 3), NONE);
        RiddlePrison both = Due.prison("01+1,02+1,13+1,23+1;p1+");
        is("one door behind each is shut", both.hunt(0, 3, 3), NONE);
        RiddlePrison shut = Due.prison("01+1,12+1,12+1,23+1,23+1;p1+");
        is("both doors to it are shut by then", shut.hunt(0, 3, 3), NONE);
    }

    private void wander() {
        terms("WANDER for a man, a CELL, n (0 .. 4): n times he PASSES one of the DOORS that he can PASS then, each as "
            + "likely (none: he stays):");
        RiddlePrison x = Due.prison("01+1,01+1,02+1,03+2;p1+,p0+");
        odds(x, 0, 0, 0, 1, 1);
        odds(x, 0, 1, 0, 0, 1);
        odds(x, 0, 1, 1, 2, 3);
        odds(x, 0, 2, 1, 1, 3);
        odds(x, 0, 3, 1, 0, 1);
        odds(x, 0, 0, 2, 1, 1);
        odds(x, 0, 1, 3, 2, 3);
        odds(x, 0, 0, 4, 1, 1);
        for (int n = 0; n <= 4; n++) {
            odds(x, 1, 0, n, 1, 1);
            odds(x, 1, 1, n, 0, 1);
        }
        is("fewer than none", x.wander(0, 0, -1, 0), BAD);
        is("too many", x.wander(0, 0, 5, 0), BAD);
        RiddlePrison warder = Due.prison("10+3,12+3;w1+@1");
        odds(warder, 0, 0, 1, 1, 2);
        odds(warder, 0, 0, 4, 1, 2);
        odds(warder, 0, 1, 4, 0, 1);
        // from cell 2 he can't go on: who is there stays, while others still come
        RiddlePrison trap = Due.prison("12+3,13+3,32+3;w1+@1");
        odds(trap, 0, 2, 1, 1, 2);
        odds(trap, 0, 2, 2, 3, 4);
        odds(trap, 0, 2, 3, 7, 8);
        odds(trap, 0, 2, 4, 15, 16);
    }

    private void odds(RiddlePrison x, int man, int cell, int n, long above, long below) {
        is("above, to " + cell + " by " + n, x.wander(man, cell, n, 0), above);
        is("below, to " + cell + " by " + n, x.wander(man, cell, n, 1), below);
    }

    private void wanderFraction() {
        terms("how likely he is there at last: a fraction in lowest terms.");
        RiddlePrison x = Due.prison("01+1,02+1,03+1,04+1;p1+");
        odds(x, 0, 1, 1, 1, 4);
        RiddlePrison two = Due.prison("01+1,01+1,02+1,02+1;p1+");
        odds(two, 0, 1, 1, 1, 2);
        odds(two, 0, 7, 4, 0, 1);
        odds(two, 0, 0, 4, 1, 1);
        // a cell with 7 doors to a cell with 4: of its 7 doors 3 lead on, of those 4 doors 1 goes farther
        RiddlePrison wide = Due.prison("01+1,01+1,01+1,02+1,03+1,04+1,05+1,16+1,67+1,67+1;p1+");
        odds(wide, 0, 1, 1, 3, 7);
        odds(wide, 0, 6, 2, 3, 28);
        odds(wide, 0, 7, 3, 1, 14);
        odds(wide, 0, 0, 2, 25, 28);
        odds(wide, 0, 6, 4, 69, 392);
        RiddlePrison ten = Due.prison("01+1,02+1,03+1,04+1,05+1,06+1,07+1,01+1,01+1,02+1;p1+");
        odds(ten, 0, 1, 3, 3, 10);
        odds(ten, 0, 7, 1, 1, 10);
    }
}
