/** The document's Terms: answers below 0, and part 1: cells, doors, men, their power. */
final class TermsEdges extends Edges {
    TermsEdges(Due due, Document document) {
        super(due, document);
    }

    @Override
    void all() {
        firstThatIsNamed();
        whatAnswersAre();
        whatTheMachineFinds();
        refusedPrison();
        refusedSheets();
        sets();
        cutDivision();
        cells();
        doors();
        severalDoors();
        questions();
        men();
        failedAtMost();
        plain();
        scholar();
        warder();
        punster();
        chaplain();
        passing();
        tried();
        whispered();
        setAnew();
        studied();
    }

    private void firstThatIsNamed() {
        terms("Answers below 0, of several the first that a call names:");
        RiddlePrison full = Due.prison(TEN_DOORS + ";" + FOUR_MEN);
        is("door: BAD ahead of FULL", full.door(3, 3, 0, 1), BAD);
        is("man: BAD ahead of FULL", full.man(5, 0, 0, 0), BAD);
        for (int k = 0; k < 90; k++) {
            full.type('0');
        }
        is("type: BAD ahead of FULL", full.type(127), BAD);
        RiddlePrison x = Due.prison("01+1,23+1;p9+,p9+@2");
        is("power: BAD ahead of NOT", x.power(2, 1), BAD);
        is("attempt: BAD ahead of NOT", x.attempt(2, 1), BAD);
        is("cut: BAD ahead of NONE", x.cut(0, 0, 2), BAD);
        is("way: BAD ahead of NONE", x.way(0, 7, -2), BAD);
        is("meet: BAD ahead of NONE", x.meet(0, 1, 2), BAD);
        is("hunt: BAD ahead of NONE", x.hunt(0, 7, 4), BAD);
        is("heard: BAD ahead of NULL", x.heard(0, 0, 0, 0, 9, 0), BAD);
        is("film: BAD ahead of NULL", x.film(0, 9, 0, 0, 0), BAD);
        is("item: BAD ahead of NULL", x.item(0, 4, 0, 0), BAD);
        is("copy: BAD ahead of NULL", x.copy(0, 0, 4, 0, 0), BAD);
        is("sheet: BAD ahead of SIZE", x.sheet(0, 4, -1), BAD);
        write(x, 0, 2, 9, 9);
        is("heard: INDEX ahead of NOT", x.heard(0, 0, 2, 0, 2, 0), INDEX);
        is("heard: CAST ahead of NOT", x.heard(0, 0, 1, 0, 1, 0), CAST);
    }

    private void whatAnswersAre() {
        terms("BAD -1 (a number is not as told, there is no such thing), NOT -2 (as told), FULL -3, NONE -4 (as told), "
            + "CAST -12 (of SHEETS another LANE);");
        RiddlePrison x = Due.prison(TEN_DOORS + ";p0+@7");
        is("a number is not as told", x.drift(0), -1);
        is("there is no such thing", x.study(1), -1);
        is("as told", x.attempt(0, 0), -2);
        is("full", x.door(0, 1, 0, 1), -3);
        is("as told", x.undo(), -4);
        x.sheet(0, 2, 1);
        is("another lane", x.item(0, 3, 0, 0), -12);
    }

    private void whatTheMachineFinds() {
        terms("what the machine finds: NULL -11, INDEX -13, SIZE -14 (NULL, CAST, INDEX, SIZE in this order).");
        RiddlePrison x = Due.prison("01+1;p0+");
        x.sheet(0, 0, 4);
        x.sheet(1, 1, 4);
        is("item: NULL ahead of INDEX", x.item(2, 0, 4, 0), -11);
        is("copy: NULL ahead of CAST, INDEX", x.copy(0, 9, 2, 9, 1), -11);
        is("item: CAST ahead of INDEX", x.item(0, 1, 4, 0), -12);
        is("film: CAST ahead of INDEX", x.film(0, 1, 0, 1, 4), -12);
        is("heard: CAST ahead of INDEX", x.heard(0, 0, 1, 4, 1, 0), -12);
        is("copy: CAST ahead of INDEX", x.copy(0, 9, 1, 9, 1), -12);
        is("index", x.item(0, 0, 4, 0), -13);
        is("size", x.sheet(0, 0, -1), -14);
    }

    private void refusedPrison() {
        terms("What is refused changes nothing, but as told.");
        RiddlePrison x = Due.prison("01+4,12+4,23+19;p9+,c0+,w3?@1,s5=@2");
        x.seed(77);
        x.attempt(1, 0);
        x.whisper(1, 0);
        String ahead = look(x);
        x.man(0, 0, 0, 0);
        x.man(5, 0, 0, 0);
        x.door(1, 1, 0, 1);
        x.door(0, 1, 0, 20);
        x.attempt(0, 2);
        x.attempt(4, 0);
        x.attempt(0, 3);
        x.whisper(1, 0);
        x.whisper(0, 3);
        x.set(0, 4, 1);
        x.set(0, 0, 20);
        x.set(3, 0, 1);
        x.study(0);
        x.study(4);
        x.drift(0);
        x.drift(41);
        x.seed(-1);
        x.restore();
        Due.read(x, "45+1;p0+,p0");
        same("all", look(x), ahead);
        is("the latest that is known", x.undo(), 1);
        is("is the whisper", x.at(1, 4), 0);
        is("and then", x.undo(), 0);
        is("the failure", x.at(1, 5), 0);
        ahead = look(x);
        is("none to undo", x.undo(), NONE);
        same("all", look(x), ahead);
    }

    private void refusedSheets() {
        terms("What is refused changes nothing, but as told.");
        RiddlePrison x = Due.prison("01+1;p1+");
        write(x, 0, 1, 1, 2, 3, 4);
        write(x, 1, 1, 5, 6);
        write(x, 2, 2, 7, 8);
        x.item(0, 1, 4, 9);
        x.item(0, 2, 0, 9);
        x.item(0, 1, -1, 9);
        x.film(0, 4, 0, 1, 1);
        x.film(0, 2, 0, 2, 0);
        x.copy(1, 0, 0, 3, 2);
        x.copy(1, 1, 0, 0, 2);
        x.copy(2, 0, 0, 0, 2);
        x.copy(1, 0, 0, 0, -1);
        x.sheet(0, 1, 25);
        x.sheet(0, 1, -1);
        x.sheet(0, 4, 4);
        is("no such sheet", x.drop(4), BAD);
        same("sheet 0", items(x, 0, 1, 4), "1234");
        same("sheet 1", items(x, 1, 1, 2), "56");
        same("sheet 2", items(x, 2, 2, 2), "78");
        is("sheet 0 has as many", x.drop(0), 4);
    }

    private void sets() {
        terms("Sets are bits.");
        RiddlePrison x = Due.prison("01+1,02+1,03+1,04+1,05+1,06+1,07+1,01+1,02+1,03+1;p1+,p1+,p1+,p1+@7");
        is("all doors", x.at(0, 6), 0x3ff);
        is("all cells", x.reach(0), 0xff);
        is("the last door alone", x.at(3, 6), 1 << 6);
        is("the first and the last cell", x.count(4), 0x81);
        is("three men", x.of(9, 5), 0x7);
        is("the last man, too", x.of(6, 5), 0xf);
        is("the last door", x.whisper(0, 9), 0x200);
        is("and the first", x.whisper(0, 0), 0x201);
    }

    /** A draw of 131071 is 1 by 65536 and 1023 by 128, cut; rounded it would be 2 and 1024. */
    private void cutDivision() {
        terms("What is divided is cut.");
        RiddlePrison x = Due.prison("01+1,02+1,03+1,04+1;p1+,p1+,p1+");
        is("the draw ahead of it is not below 0", x.seed(aheadOf(131071)), 1);
        x.drift(1);
        is("the draw", x.seed(1), 131071);
        is("man 1 tried door 3", x.at(1, 3), 4);
        is("man 2 did not", x.at(2, 3), 0);
    }

    /** The draw behind which another one comes: the generator is taken back by the inverse of its factor. */
    static int aheadOf(int draw) {
        int inverse = 1;
        for (int k = 0; k < 6; k++) {
            inverse *= 2 - 1103515245 * inverse;
        }
        return (draw - 12345) * inverse & 0x7fffffff;
    }

    private void cells() {
        terms("CELLS are 0 .. 7.");
        RiddlePrison x = new RiddlePrison();
        is("the first and the last", x.door(0, 7, 0, 1), 0);
        is("the last and the first", x.door(7, 0, 0, 1), 1);
        is("a man in the last", x.man(0, 1, 0, 7), 0);
        is("there", x.at(0, 3), 7);
        for (int cell : new int[] {-1, 8, LEAST, MOST}) {
            is("door from " + cell, x.door(cell, 0, 0, 1), BAD);
            is("door to " + cell, x.door(0, cell, 0, 1), BAD);
            is("man in " + cell, x.man(0, 0, 0, cell), BAD);
        }
    }

    private void doors() {
        terms("DOORS 0 .. 9, as they come,");
        RiddlePrison x = new RiddlePrison();
        x.man(0, 0, 0, 0);
        for (int k = 0; k < 10; k++) {
            is("not yet", x.of(k, 0), BAD);
            is("nor known", x.whisper(0, k), BAD);
            is("door", x.door(k % 8, (k + 1) % 8, 0, 1), k);
            is("its cell", x.of(k, 0), k % 8);
        }
        is("an eleventh", x.door(0, 1, 0, 1), FULL);
        is("none of number 10", x.of(10, 0), BAD);
    }

    private void severalDoors() {
        terms("are between two unlike CELLS (several between the same, maybe),");
        RiddlePrison x = new RiddlePrison();
        for (int cell = 0; cell < 8; cell++) {
            is("between alike", x.door(cell, cell, 0, 1), BAD);
        }
        for (int k = 0; k < 10; k++) {
            is("between the same", k % 2 == 0 ? x.door(4, 5, 0, 1) : x.door(5, 4, 0, 1), k);
        }
        x.man(0, 1, 0, 4);
        is("all of them are his cell's", x.at(0, 6), 0x3ff);
        is("as many ways", x.ways(0, 5), 10);
        is("through one of the other direction, too", x.attempt(0, 9), 5);
    }

    private void questions() {
        terms("shut by a QUESTION of a SORT (0 SUMS, 1 PUNS, 2 KIN, 3 WEIGHTS), HARD by 1 .. 19.");
        RiddlePrison x = new RiddlePrison();
        is("the least", x.door(0, 1, 0, 1), 0);
        is("the most", x.door(0, 1, 3, 19), 1);
        is("sort", x.of(1, 2), 3);
        is("hard", x.of(1, 3), 19);
        for (int sort : new int[] {-1, 4, LEAST, MOST}) {
            is("door of sort " + sort, x.door(0, 1, sort, 1), BAD);
            is("set to sort " + sort, x.set(0, sort, 1), BAD);
        }
        for (int hard : new int[] {-1, 0, 20, LEAST, MOST}) {
            is("door hard by " + hard, x.door(0, 1, 0, hard), BAD);
            is("set hard by " + hard, x.set(0, 0, hard), BAD);
        }
        is("two doors", x.count(0), 2);
        is("as hard as they were", x.count(2), 20);
        Due.read(x, "01+1,01?1,01=1,01&1");
        for (int sort = 0; sort < 4; sort++) {
            is("sums, puns, kin, weights", x.of(sort, 2), sort);
        }
    }

    private void men() {
        terms("MEN 0 .. 3, as they come, are of a KIND, have WIT (0 .. 9), a SORT of their own, are in a CELL, "
            + "KNOW some DOORS (none at first),");
        RiddlePrison x = new RiddlePrison();
        x.door(0, 1, 0, 1);
        int[][] told = {{0, 0, 0, 0}, {4, 9, 3, 7}, {2, 5, 1, 3}, {3, 1, 2, 4}};
        for (int m = 0; m < 4; m++) {
            is("not yet", x.at(m, 0), BAD);
            is("man", x.man(told[m][0], told[m][1], told[m][2], told[m][3]), m);
            for (int what = 0; what < 4; what++) {
                is("at " + what, x.at(m, what), told[m][what]);
            }
            is("knows", x.at(m, 4), 0);
        }
        is("a fifth", x.man(0, 0, 0, 0), FULL);
        is("none of number 4", x.at(4, 0), BAD);
        for (int off : new int[] {-1, LEAST, MOST}) {
            is("kind " + off, x.man(off, 0, 0, 0), BAD);
            is("wit " + off, x.man(0, off, 0, 0), BAD);
            is("sort " + off, x.man(0, 0, off, 0), BAD);
        }
        is("kind 5", x.man(5, 0, 0, 0), BAD);
        is("wit 10", x.man(0, 10, 0, 0), BAD);
        is("sort 4", x.man(0, 0, 4, 0), BAD);
        x.whisper(3, 0);
        Due.read(x, "01+1;p0+");
        for (int m = 1; m < 4; m++) {
            is("in place of one who knew", x.man(0, 0, 0, 0), m);
            is("knows", x.at(m, 4), 0);
        }
    }

    private void failedAtMost() {
        terms("have FAILED so often (0 at first; 99 at most).");
        RiddlePrison x = Due.prison("01+19;p0+,p0+");
        is("at first", x.at(0, 5), 0);
        fail(x, 0, 0, 98);
        is("once less than most", x.at(0, 5), 98);
        is("stays", x.attempt(0, 0), 0);
        is("most", x.at(0, 5), 99);
        is("stays", x.attempt(0, 0), 0);
        is("no more than that", x.at(0, 5), 99);
        is("all together", x.count(3), 99);
        is("the other one did not", x.at(1, 5), 0);
        is("it may be undone", x.undo(), 7);
        is("as ahead of it", x.at(0, 5), 99);
        x.undo();
        is("as ahead of that", x.at(0, 5), 98);
        fail(x, 1, 0, 99);
        is("each for himself", x.count(3), 197);
        Due.read(x, "01+19;p0+");
        is("in place of one who failed", x.man(0, 0, 0, 0), 1);
        is("at first", x.at(1, 5), 0);
    }

    /** The power of a man of this kind at doors of the four sorts. */
    private void powers(String man, int... want) {
        RiddlePrison x = Due.prison("01+19,01?19,01=19,01&19;" + man);
        for (int sort = 0; sort < 4; sort++) {
            is(man + " at sort " + sort, x.power(0, sort), want[sort]);
        }
    }

    private void plain() {
        terms("POWER of a man at a DOOR of his CELL, by KIND: 0 PLAIN: WIT.");
        powers("p0+", 0, 0, 0, 0);
        powers("p9+", 9, 9, 9, 9);
        powers("p9?@1", 9, 9, 9, 9);
        RiddlePrison x = Due.prison("01+19,12+1;p9+");
        fail(x, 0, 0, 10);
        is("failing gives nothing", x.power(0, 0), 9);
        is("a door of another cell", x.power(0, 1), NOT);
    }

    private void scholar() {
        terms("Below it 1 SCHOLAR: as PLAIN; 3 more, if the QUESTION is of his own SORT.");
        powers("s0+", 3, 0, 0, 0);
        powers("s9?@1", 9, 12, 9, 9);
        powers("s9=", 9, 9, 12, 9);
        powers("s9&", 9, 9, 9, 12);
        RiddlePrison x = Due.prison("01+19;s0+@1");
        fail(x, 0, 0, 10);
        is("failing gives nothing", x.power(0, 0), 3);
        x.set(0, 1, 19);
        is("of another sort now", x.power(0, 0), 0);
    }

    private void warder() {
        terms("2 WARDER (below PLAIN): as PLAIN; 2 more, if his CELL is of an odd number.");
        for (int cell = 0; cell < 8; cell++) {
            RiddlePrison x = new RiddlePrison();
            x.door(cell, (cell + 1) % 8, 0, 19);
            x.man(2, 9, 0, cell);
            is("in cell " + cell, x.power(0, 0), cell % 2 == 0 ? 9 : 11);
            fail(x, 0, 0, 1);
            is("failing gives nothing", x.power(0, 0), cell % 2 == 0 ? 9 : 11);
        }
        powers("w0+", 0, 0, 0, 0);
        powers("w0+@1", 2, 2, 2, 2);
    }

    private void punster() {
        terms("3 PUNSTER (below SCHOLAR): as SCHOLAR; but 0 at SUMS.");
        powers("u0&", 0, 0, 0, 3);
        powers("u9?", 0, 12, 9, 9);
        powers("u9=@1", 0, 9, 12, 9);
        powers("u9+", 0, 9, 9, 9);
        RiddlePrison x = Due.prison("01+1;u9+");
        is("he fails at the least", x.attempt(0, 0), 0);
        is("but not if he knows", x.whisper(0, 0), 1);
        is("it", x.attempt(0, 0), 1);
    }

    private void chaplain() {
        terms("4 CHAPLAIN (below WARDER): as WARDER; 1 more for each time that he FAILED (9 more at most).");
        powers("c9+", 9, 9, 9, 9);
        powers("c9+@1", 11, 11, 11, 11);
        RiddlePrison x = Due.prison("01+19,21?19;c0+,c9+@1");
        for (int times = 0; times <= 12; times++) {
            is("failed " + times, x.power(0, 0), Math.min(times, 9));
            fail(x, 0, 0, 1);
        }
        fail(x, 0, 0, 87);
        is("failed 99 times", x.at(0, 5), 99);
        is("as after 9", x.power(0, 0), 9);
        is("the other one did not fail", x.power(1, 0), 11);
        fail(x, 1, 1, 7);
        is("2 more and 7 more", x.power(1, 1), 18);
        is("fails once more", x.attempt(1, 1), 1);
        is("and passes the hardest", x.attempt(1, 1), 2);
    }

    private void passing() {
        terms("He can PASS a DOOR of his CELL, if he KNOWS it, or POWER is as much as it is HARD, or more.");
        RiddlePrison x = Due.prison("01+4,01+5,01+6,12+1,01+19;p5+,p5+@2");
        is("less hard, as hard", x.at(0, 6), 0b00011);
        x.whisper(0, 4);
        x.whisper(0, 3);
        is("known", x.at(0, 6), 0b10011);
        is("known, but of another cell", x.of(3, 5), 0b10);
        is("as hard", x.of(1, 5), 0b01);
        is("harder by one", x.of(2, 5), 0);
        is("as hard", x.attempt(0, 1), 1);
        is("known", x.attempt(0, 4), 0);
        is("harder by one", x.attempt(0, 2), 0);
        is("failed", x.at(0, 5), 1);
    }

    private void tried() {
        terms("TRIED: a man at a DOOR of his CELL: if he can PASS it, he is in its other CELL; "
            + "else he has FAILED once more.");
        RiddlePrison x = Due.prison("25+3;p3+@2,p2+@5");
        is("to the other one", x.attempt(0, 0), 5);
        is("did not fail", x.at(0, 5), 0);
        is("and to the first one", x.attempt(0, 0), 2);
        is("knows no more by it", x.at(0, 4), 0);
        is("fails, stays", x.attempt(1, 0), 5);
        is("failed once", x.at(1, 5), 1);
        is("stays", x.at(1, 3), 5);
    }

    private void whispered() {
        terms("WHISPERED: a man KNOWS a DOOR.");
        RiddlePrison x = Due.prison("01+19,67+19;p0+,p0+");
        is("one of another cell", x.whisper(0, 1), 0b10);
        is("nobody else", x.of(1, 4), 0b01);
        is("the other one", x.whisper(1, 0), 0b01);
        is("he passes", x.attempt(1, 0), 1);
        is("he knows it still", x.at(1, 4), 0b01);
    }

    private void setAnew() {
        terms("SET anew: a DOOR is HARD by another number, its QUESTION of another SORT; nobody KNOWS it any more.");
        RiddlePrison x = Due.prison(TEN_DOORS + ";" + FOUR_MEN);
        for (int m = 0; m < 4; m++) {
            x.whisper(m, 9);
            x.whisper(m, 8);
        }
        is("set", x.set(9, 3, 19), 1);
        is("hard", x.of(9, 3), 19);
        is("sort", x.of(9, 2), 3);
        is("nobody knows it", x.of(9, 4), 0);
        is("all know the other one", x.of(8, 4), 0b1111);
        is("its cells stay", x.of(9, 1), 1);
        is("to the same", x.set(8, 0, 1), 1);
        is("nobody knows it either", x.of(8, 4), 0);
        is("he may be told anew", x.whisper(0, 9), 0x200);
    }

    private void studied() {
        terms("STUDIED: WIT of a man is 1 more (9 at most).");
        RiddlePrison x = Due.prison("01+9;p8+,p0+");
        is("not yet", x.of(0, 5), 0);
        is("1 more", x.study(0), 9);
        is("now", x.of(0, 5), 1);
        is("9 at most", x.study(0), NOT);
        is("still", x.at(0, 1), 9);
        is("the other one", x.at(1, 1), 0);
    }
}
