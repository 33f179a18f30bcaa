/** Promises 17 to 27: way, ways, reach, round, cut, bridges, wit, lesson, meet, hunt, wander. */
public final class ForetoldTest {
    private static final int NONE = RiddlePrison.NONE;
    private static final int BAD = RiddlePrison.BAD;
    private static final Due DUE = new Due();

    public static void main(String[] args) {
        wayAndWays();
        reach();
        round();
        cut();
        bridges();
        wit();
        lesson();
        meet();
        hunt();
        wander();
        wrongNumbers();
        nothingChanges();
        DUE.end();
    }

    /** A square 0-1-3, 0-2-3 with two doors from 2 to 3, then 4 behind 3; 5 behind too hard a door. */
    private static RiddlePrison square() {
        return Due.prison("02+1,01+1,23+1,13+1,23+1,34+1,45+9;p1+");
    }

    private static void wayAndWays() {
        RiddlePrison x = square();
        int[] lengths = {0, 1, 1, 2, 3, NONE, NONE, NONE};
        int[] rows = {1, 1, 1, 3, 3, 0, 0, 0};
        for (int cell = 0; cell < 8; cell++) {
            DUE.is("way to " + cell, x.way(0, cell, -1), lengths[cell]);
            DUE.is("ways to " + cell, x.ways(0, cell), rows[cell]);
        }
        int[] doors = {0, 2, 5, NONE, NONE};
        for (int k = 0; k < doors.length; k++) {
            DUE.is("door " + k + " of the way", x.way(0, 4, k), doors[k]);
        }
        DUE.is("far beyond", x.way(0, 4, Integer.MAX_VALUE), NONE);
        DUE.is("no way", x.way(0, 6, 0), NONE);
        DUE.is("he is there", x.way(0, 0, 0), NONE);
        RiddlePrison y = Due.prison("13+1,03+9,02+1,01+1,23+1;p1+");
        DUE.is("the first row begins with the lower number", y.way(0, 3, 0), 2);
        DUE.is("though its end is higher", y.way(0, 3, 1), 4);
        RiddlePrison z = Due.prison("01+3,12+3,20+3;w1+@1");
        DUE.is("a warder goes from an odd cell", z.way(0, 2, -1), 1);
        z.attempt(0, 1);
        DUE.is("but not back", z.way(0, 1, -1), NONE);
        z.whisper(0, 1);
        DUE.is("unless he knows", z.way(0, 1, -1), 1);
        RiddlePrison many = Due.prison("01+1,01+1,01+1,12+1,12+1,12+1,23+1,23+1,23+1,23+1;p9+");
        DUE.is("rows through doors side by side", many.ways(0, 3), 36);
        RiddlePrison chaplain = Due.prison("01+1,12+9;c1+");
        chaplain.attempt(0, 0);
        for (int k = 0; k < 6; k++) {
            DUE.is("no way as long as he failed too little", chaplain.way(0, 2, -1), NONE);
            chaplain.attempt(0, 1);
        }
        DUE.is("a way then", chaplain.way(0, 2, -1), 1);
    }

    private static void reach() {
        DUE.is("reach", square().reach(0), 0b11111);
        DUE.is("reach of one shut in", Due.prison("01+9;p8+@1").reach(0), 0b10);
        DUE.is("reach of a warder", Due.prison("01+9,12+9,23+9;w7+@1").reach(0), 0b111);
    }

    private static void round() {
        RiddlePrison star = Due.prison("01+1,02+1,03+1,34+1;p1+");
        DUE.is("none told", star.round(0, 0), 0);
        DUE.is("his own", star.round(0, 1), 0);
        DUE.is("one", star.round(0, 0b10), 1);
        DUE.is("two", star.round(0, 0b110), 3);
        DUE.is("all", star.round(0, 0b11111), 6);
        DUE.is("without the end", star.round(0, 0b1111), 5);
        DUE.is("out of reach", star.round(0, 0b100001), NONE);
        RiddlePrison oneWay = Due.prison("12+3,10+3;w1+@1");
        DUE.is("he cannot come back", oneWay.round(0, 0b101), NONE);
        DUE.is("not a number of cells", star.round(0, -1), BAD);
        DUE.is("not a number of cells", star.round(0, 256), BAD);
        DUE.is("no such man", star.round(1, 0), BAD);
        RiddlePrison line = Due.prison("01+1,12+1,23+1,34+1,45+1,56+1,67+1;p1+@3");
        DUE.is("the shorter side first", line.round(0, 255), 10);
    }

    private static void cut() {
        RiddlePrison x = square();
        cutIs(x, 3, 2, 0b11);
        cutIs(x, 4, 1, 0b100000);
        cutIs(x, 5, 0, 0);
        cutIs(x, 0, NONE, NONE);
        cutIs(x, 2, 2, 0b11);
        cutIs(Due.prison("01+1,01+1,01+1,01+1,01+1,01+1,01+1,01+1,01+1,01+1;p1+"), 1, 10, 1023);
        cutIs(Due.prison("01+1,12+1,12+1,01+1,01+1;p1+"), 2, 2, 0b110);
        cutIs(Due.prison("01+1,12+3;w1+@1"), 2, 1, 0b10);
    }

    private static void cutIs(RiddlePrison x, int cell, int size, int doors) {
        DUE.is("cut, how many", x.cut(0, cell, 0), size);
        DUE.is("cut, which", x.cut(0, cell, 1), doors);
    }

    private static void bridges() {
        RiddlePrison x = square();
        DUE.is("none", x.bridges(0, 3), 0);
        DUE.is("one", x.bridges(0, 4), 0b100000);
        DUE.is("he is there", x.bridges(0, 0), 0);
        DUE.is("he cannot get there", x.bridges(0, 5), 0);
        DUE.is("several", Due.prison("01+1,12+1,12+1,23+1;p1+").bridges(0, 3), 0b1001);
    }

    private static void wit() {
        RiddlePrison x = Due.prison("01+5,02+3,21+4,34+10;p9+");
        DUE.is("wit", x.wit(0, 1), 4);
        DUE.is("he is there", x.wit(0, 0), 0);
        DUE.is("no door", x.wit(0, 3), NONE);
        RiddlePrison y = Due.prison("01+10,01?10,12=9;s0?@1,u9+,c0+@1");
        DUE.is("a scholar", y.wit(0, 0), 7);
        DUE.is("a scholar", y.wit(0, 2), 9);
        DUE.is("a punster at sums", y.wit(1, 1), NONE);
        DUE.is("a chaplain in an odd cell", y.wit(2, 2), 7);
        y.attempt(2, 2);
        DUE.is("and after a failure", y.wit(2, 2), 6);
        y.whisper(1, 0);
        DUE.is("one who knows", y.wit(1, 1), 0);
    }

    private static void lesson() {
        RiddlePrison x = Due.prison("01?5,12?5,03&5,35&5;s2+,p2+,p9+,u2+");
        DUE.is("which", x.lesson(0, 0), 1);
        DUE.is("to how many", x.lesson(0, 1), 3);
        DUE.is("a plain man learns nothing", x.lesson(1, 0), 0);
        DUE.is("a plain man learns nothing", x.lesson(1, 1), 1);
        DUE.is("to how many", x.lesson(2, 1), 5);
        DUE.is("a punster", x.lesson(3, 0), 1);
        x.set(0, 0, 5);
        DUE.is("weights then", x.lesson(3, 0), 3);
        DUE.is("weights then", x.lesson(3, 1), 3);
    }

    private static void meet() {
        RiddlePrison x = Due.prison("01+1,12+1,23+1,34+1,56+1;p1+,p1+@4,p1+@5,p0+@2");
        meets(x, 0, 1, 2, 2);
        meets(x, 1, 0, 2, 2);
        meets(x, 0, 2, NONE, NONE);
        meets(x, 0, 3, 2, 2);
        RiddlePrison y = Due.prison("01+1,12+1,23+1;p1+,p1+@3,p1+");
        meets(y, 0, 1, 1, 2);
        meets(y, 0, 2, 0, 0);
        RiddlePrison z = Due.prison("76+1;p1+@7,p1+@6");
        meets(z, 0, 1, 6, 1);
    }

    private static void meets(RiddlePrison x, int man, int other, int cell, int doors) {
        DUE.is("meet, where", x.meet(man, other, 0), cell);
        DUE.is("meet, how soon", x.meet(man, other, 1), doors);
    }

    private static void hunt() {
        RiddlePrison x = Due.prison("01+1,12+1,12+1,13+1,24+1,34+1,24+1,34+1;p1+");
        DUE.is("no steps", x.hunt(0, 0, 0), 0);
        DUE.is("no steps", x.hunt(0, 1, 0), NONE);
        DUE.is("a door away", x.hunt(0, 1, 1), 1);
        DUE.is("a door away", x.hunt(0, 1, 3), 1);
        DUE.is("two doors side by side", x.hunt(0, 2, 1), NONE);
        DUE.is("two doors side by side", x.hunt(0, 2, 2), 2);
        DUE.is("one door", x.hunt(0, 3, 3), NONE);
        DUE.is("three steps", x.hunt(0, 4, 2), NONE);
        DUE.is("three steps", x.hunt(0, 4, 3), 3);
        x.set(7, 0, 2);
        DUE.is("one door of them too hard", x.hunt(0, 4, 3), NONE);
        RiddlePrison one = Due.prison("01+1,12+1;p1+");
        DUE.is("the only door is shut", one.hunt(0, 2, 3), NONE);
    }

    private static void wander() {
        RiddlePrison x = Due.prison("01+1,02+1,03+1,12+1,45+9;p1+,p1+@4");
        odds(x, 0, 0, 0, 1, 1);
        odds(x, 0, 1, 0, 0, 1);
        odds(x, 0, 1, 1, 1, 3);
        odds(x, 0, 0, 2, 2, 3);
        odds(x, 0, 1, 2, 1, 6);
        odds(x, 0, 3, 3, 2, 9);
        odds(x, 0, 7, 4, 0, 1);
        odds(x, 1, 4, 4, 1, 1);
        odds(x, 1, 5, 4, 0, 1);
        RiddlePrison y = Due.prison("01+1,01+1,02+1;p1+");
        odds(y, 0, 1, 1, 2, 3);
        RiddlePrison stuck = Due.prison("10+3,12+3,23+1;w1+@1");
        odds(stuck, 0, 0, 4, 1, 2);
        // from 2 he goes to 3 and from 3 only back: after 1, 3 steps he is in 2, after 2, 4 in 3
        odds(stuck, 0, 3, 4, 1, 2);
        odds(stuck, 0, 2, 3, 1, 2);
        RiddlePrison wide = Due.prison("01+1,02+1,03+1,04+1,05+1,06+1,07+1,01+1,02+1,03+1;p1+");
        odds(wide, 0, 7, 3, 1, 10);
        odds(wide, 0, 0, 4, 1, 1);
    }

    private static void odds(RiddlePrison x, int man, int cell, int n, long above, long below) {
        DUE.is("wander to " + cell + " by " + n + ", above", x.wander(man, cell, n, 0), above);
        DUE.is("wander to " + cell + " by " + n + ", below", x.wander(man, cell, n, 1), below);
    }

    private static void wrongNumbers() {
        RiddlePrison x = Due.prison("01+1;p1+,p1+");
        for (int man : new int[] {-1, 2, Integer.MIN_VALUE, Integer.MAX_VALUE}) {
            wrong(x.way(man, 0, -1), x.ways(man, 0), x.reach(man), x.round(man, 0), x.cut(man, 1, 0),
                x.bridges(man, 1), x.wit(man, 0), x.lesson(man, 0), x.meet(man, 0, 0), x.meet(0, man, 0),
                x.hunt(man, 0, 0), x.wander(man, 0, 0, 0));
        }
        for (int cell : new int[] {-1, 8, Integer.MIN_VALUE, Integer.MAX_VALUE}) {
            wrong(x.way(0, cell, -1), x.ways(0, cell), x.cut(0, cell, 0), x.bridges(0, cell), x.wit(0, cell),
                x.hunt(0, cell, 0), x.wander(0, cell, 0, 0));
        }
        for (int what : new int[] {-1, 2, Integer.MIN_VALUE, Integer.MAX_VALUE}) {
            wrong(x.cut(0, 1, what), x.lesson(0, what), x.meet(0, 1, what), x.wander(0, 0, 0, what));
        }
        wrong(x.way(0, 0, -2), x.way(0, 0, Integer.MIN_VALUE), x.meet(1, 1, 0), x.hunt(0, 0, -1), x.hunt(0, 0, 4),
            x.wander(0, 0, -1, 0), x.wander(0, 0, 5, 0));
    }

    private static void wrong(long... answers) {
        for (int k = 0; k < answers.length; k++) {
            DUE.is("wrong number " + k, answers[k], BAD);
        }
    }

    private static void nothingChanges() {
        RiddlePrison x = Due.prison("01+5,12+3;c2?@1,s3+");
        x.attempt(0, 0);
        x.whisper(1, 1);
        x.hunt(0, 2, 3);
        x.wander(1, 2, 4, 0);
        x.lesson(1, 0);
        x.wit(0, 2);
        x.meet(0, 1, 0);
        x.round(0, 7);
        x.cut(1, 2, 1);
        x.way(1, 2, 1);
        int[][] men = {{4, 2, 1, 1, 0, 1, 0b11}, {1, 3, 0, 0, 0b10, 0, 0b01}};
        for (int man = 0; man < 2; man++) {
            for (int what = 0; what < 7; what++) {
                DUE.is("at " + man + " " + what, x.at(man, what), men[man][what]);
            }
        }
        DUE.is("undoable", x.count(5), 2);
        DUE.is("the draw", x.seed(1), 1);
    }
}
